/-! tasks and channels are laid -/
section LAY
variable {σ σ' : Sg} {gq ci gr nc N N' nu : Nat → Nat} {ot : Nat → Nat → Int} {LL LL' : Nat → List Nat} {pl r c d t k : Nat} {v : Int}
theorem up2_comm {α : Type} {f : Nat → Nat → α} {a b j k : Nat} {v w : α} (h : ¬ (a = b ∧ j = k)) : up2 (up2 f a j v) b k w = up2 (up2 f b k w) a j v := by
  funext x y
  by_cases p : x = a ∧ y = j
  · obtain ⟨p1, p2⟩ := p; subst p1 p2
    rw [up2_n _ _ h, up2_s, up2_s]
  · by_cases q : x = b ∧ y = k
    · obtain ⟨q1, q2⟩ := q; subst q1 q2
      rw [up2_s, up2_n _ _ p, up2_s]
    · rw [up2_n _ _ q, up2_n _ _ p, up2_n _ _ p, up2_n _ _ q]
theorem pI_comm {a b j k : Nat} {v w : Int} (h : ¬ (a = b ∧ j = k)) : pI (pI σ a j v) b k w = pI (pI σ b k w) a j v := by
  show (σ.1, σ.2.1, σ.2.2.1, up2 (up2 (gI σ) a j v) b k w, σ.2.2.2.2.1, σ.2.2.2.2.2) = (σ.1, σ.2.1, σ.2.2.1, up2 (up2 (gI σ) b k w) a j v, σ.2.2.2.2.1, σ.2.2.2.2.2)
  rw [up2_comm h]
/-- what all of these have in common: an int of a thing of kind 2, 9 or 10 -/
theorem IV.wS {l : Nat} {nu' : Nat → Nat} (h : IV σ pl gq ci gr nc ot LL N nu) (ht : kO σ t l) (hl : l = 2 ∨ l = 9 ∨ l = 10) (hk : (l = 2 ∧ (k = 1 ∨ k = 2 ∨ k = 7)) ∨ (l = 9 ∧ (k = 10 ∨ k = 11)) ∨ (l = 10 ∧ (k = 11 ∨ k = 12 ∨ k = 14 ∨ k = 15)))
    (hv : lbLo l k ≤ v ∧ v ≤ lbHi nu l k) (hu : ∀ k, k ≠ 15 → k ≠ 16 → nu' k = nu k) (hB : SB (pI σ t k v) gq ci nu') (hS : ∀ x, kO σ x 1 → LL x ≠ [] → PlC σ gq ci ot x → PlC (pI σ t k v) gq ci ot x) (h16 : nu 16 ≤ nu' 16) : IV (pI σ t k v) pl gq ci gr nc ot LL N nu' := by
  obtain ⟨i1, i2, i3, i4, i5, i6, i7, own, i8⟩ := id h
  have kk : (l < 100 ∧ l ≠ 1 ∧ k < 64) := ⟨by omega, by omega, by omega⟩
  have s : Sk [129, 130, 135, 586, 587, 651, 652, 654, 655] gr σ (pI σ t k v) := Sk.pI (by
    rw [fcdO ht kk]
    rcases hk with ⟨e, w | w | w⟩ | ⟨e, w | w⟩ | ⟨e, w | w | w | w⟩ <;> subst e <;> subst w <;> decide)
  have rv : rng v := lb_rng h.nu2.1 h.nu2.2.1 h.nu2.2.2 hv
  have s1 : SA (pI σ t k v) gq ci gr nu := i1.pI (fun _ => by rw [labO ht (by omega)]; exact hv)
  refine ⟨s1.nn9 (hu 0 (by decide) (by decide)) (hu 1 (by decide) (by decide)) (hu 2 (by decide) (by decide)), hB, i3.sk s (by decide), ?_, i5.sk i1 s (by decide), ?_, ⟨RG.pI i7.1 rv, i7.2.sk s (by decide)⟩, own, i8.sk s (by decide)⟩
  · obtain ⟨a1, a2, a3, a4, a5, a6, a7, a8⟩ := i4
    refine ⟨a1, a2, a3, a4, by rw [hu 10 (by decide) (by decide)]; exact a5, fun x hx hL => hS x hx hL (a6 x hx hL), fun x hx hq e he => ?_, a8⟩
    have kd := (i8.2.2.1 x e he).2
    rw [gI_pI, up2_n _ _ (fun z => absurd z.1 (kd.ne ht (by omega)))]
    have := a7 x hx hq e he; omega
  · have := i6.sk s rfl rfl (by decide)
    unfold SU at this ⊢; rw [hu 0 (by decide) (by decide), hu 5 (by decide) (by decide), hu 8 (by decide) (by decide), hu 9 (by decide) (by decide), hu 10 (by decide) (by decide), hu 12 (by decide) (by decide), hu 13 (by decide) (by decide), hu 14 (by decide) (by decide)]; exact this
theorem PlC.oth {x : Nat} (h : PlC σ gq ci ot x) {l : Nat} (ht : kO σ t l) (hl : l = 2 ∨ (l = 10 ∧ k ≠ 0)) : PlC (pI σ t k v) gq ci ot x := by
  obtain ⟨p1, p2, p3, p4, p5, p6, p7⟩ := h
  have oo : ∀ r j, kO σ r 9 → gI (pI σ t k v) r j = gI σ r j := fun r j hr => by rw [gI_pI, up2_n _ _ (fun z => absurd z.1 (hr.ne ht (by omega)))]
  refine ⟨p1, fun w r hr => by rw [oo r 10 hr]; exact p2 w r hr, fun w r hr => by rw [oo r 11 hr]; exact p3 w r hr, p4, p5, p6, fun w t' ht' q hc => ?_⟩
  rw [gI_pI, up2_n _ _ (fun z => by
    have ht' : kO σ t' 10 := ht'
    rcases hl with e | e
    · exact absurd z.1 (ht'.ne ht (by omega))
    · exact e.2 z.2.symm)]; exact p7 w t' ht' q hc
/-- a channel that doesn't count yet -/
theorem IV.wQ (h : IV σ pl gq ci gr nc ot LL N nu) (hc : kO σ c 2) (hl : nu 16 ≤ ci c) (hk : k = 1 ∨ k = 2 ∨ k = 7) (hv : rng v) : IV (pI σ c k v) pl gq ci gr nc ot LL N nu := by
  refine h.wS hc (Or.inl rfl) (Or.inl ⟨rfl, hk⟩) (by have w := rngb hv; rcases hk with e | e | e <;> subst e <;> exact w) (fun _ _ _ => rfl) ?_ (fun x _ _ p => p.oth hc (Or.inl rfl)) (Nat.le_refl _)
  obtain ⟨a1, a2, a3, a4, a5, a6, ⟨r0, x1, z1, z2⟩, a8⟩ := h.2.1
  have oo : ∀ a j l, kO σ a l → l ≠ 2 → gI (pI σ c k v) a j = gI σ a j := fun a j l ha hl => by rw [gI_pI, up2_n _ _ (fun z => absurd z.1 (ha.ne hc hl))]
  refine ⟨a1, a2, a3, fun c' hc' hi => ?_, fun r hr t ht q hi => ?_, a6, ⟨r0, x1, by rw [oo r0 10 9 x1 (by decide)]; exact z1, by rw [oo r0 11 9 x1 (by decide)]; exact z2⟩, a8⟩
  · have ne : ∀ j, gI (pI σ c k v) c' j = gI σ c' j := fun j => by rw [gI_pI, up2_n _ _ (fun z => by rw [z.1] at hi; omega)]
    rw [ne, ne, ne]; exact a4 c' hc' hi
  · rw [oo r _ 9 hr (by decide)] at hi
    rw [oo r _ 9 hr (by decide), oo t _ 10 ht (by decide), oo t _ 10 ht (by decide), oo t _ 10 ht (by decide), oo t _ 10 ht (by decide), oo t _ 10 ht (by decide)]; exact a5 r hr t ht q hi
/-- where a task's channels are -/
theorem IV.wTl (h : IV σ pl gq ci gr nc ot LL N nu) (ht : kO σ t 10) (hk : (k = 14 ∧ -1 ≤ v ∧ v < (nu 16 : Int)) ∨ (k = 15 ∧ -1 ≤ v ∧ v < (nu 16 : Int)) ∨ (k = 11 ∧ (0 ≤ v ∧ v ≤ 512) ∧ v + gI σ t 12 ≤ (nu 16 : Int)) ∨ (k = 12 ∧ (0 ≤ v ∧ v ≤ 512) ∧ gI σ t 11 + v ≤ (nu 16 : Int))) : IV (pI σ t k v) pl gq ci gr nc ot LL N nu := by
  have n16 := h.n16
  refine h.wS ht (Or.inr (Or.inr rfl)) (Or.inr (Or.inr ⟨rfl, by omega⟩)) (by
    rcases hk with ⟨e, w⟩ | ⟨e, w⟩ | ⟨e, w, _⟩ | ⟨e, w, _⟩ <;> subst e
    · exact (show (-2147483648 : Int) ≤ v ∧ v ≤ 2147483647 by omega)
    · exact (show (-2147483648 : Int) ≤ v ∧ v ≤ 2147483647 by omega)
    · exact (show (0 : Int) ≤ v ∧ v ≤ 512 from w)
    · exact (show (0 : Int) ≤ v ∧ v ≤ 512 from w)) (fun _ _ _ => rfl) ?_ (fun x _ _ p => p.oth ht (Or.inr ⟨rfl, by omega⟩)) (Nat.le_refl _)
  obtain ⟨a1, a2, a3, a4, a5, a6, ⟨r0, x1, z1, z2⟩, a8⟩ := h.2.1
  have oo : ∀ a j l, kO σ a l → l ≠ 10 → gI (pI σ t k v) a j = gI σ a j := fun a j l ha hl => by rw [gI_pI, up2_n _ _ (fun z => absurd z.1 (ha.ne ht hl))]
  refine ⟨a1, a2, a3, fun c' hc' hi => ?_, fun r hr t' ht' q hi => ?_, a6, ⟨r0, x1, by rw [oo r0 10 9 x1 (by decide)]; exact z1, by rw [oo r0 11 9 x1 (by decide)]; exact z2⟩, a8⟩
  · rw [oo c' _ 2 hc' (by decide), oo c' _ 2 hc' (by decide), oo c' _ 2 hc' (by decide)]; exact a4 c' hc' hi
  · rw [oo r _ 9 hr (by decide)] at hi
    rw [oo r _ 9 hr (by decide)]
    have old := a5 r hr t' ht' q hi
    have er := h.un (show kO σ r 9 from hr) x1 rfl; subst er
    by_cases z : t' = t
    · subst z
      have o : ∀ j, j ≠ k → gI (pI σ t' k v) t' j = gI σ t' j := fun j w => by rw [gI_pI, up2_n _ _ (fun y => w y.2)]
      have e : gI (pI σ t' k v) t' k = v := by rw [gI_pI, up2_s]
      rcases hk with ⟨w, b⟩ | ⟨w, b⟩ | ⟨w, _, b⟩ | ⟨w, _, b⟩ <;> subst w
      · rw [o 11 (by decide), o 12 (by decide), e, o 15 (by decide), o 0 (by decide)]; exact ⟨old.1, b, old.2.2⟩
      · rw [o 11 (by decide), o 12 (by decide), o 14 (by decide), e, o 0 (by decide)]; exact ⟨old.1, old.2.1, by omega, old.2.2.2⟩
      · rw [e, o 12 (by decide), o 14 (by decide), o 15 (by decide), o 0 (by decide)]; exact ⟨by omega, old.2⟩
      · rw [o 11 (by decide), e, o 14 (by decide), o 15 (by decide), o 0 (by decide)]; exact ⟨by omega, old.2⟩
    · have o : ∀ j, gI (pI σ t k v) t' j = gI σ t' j := fun j => by rw [gI_pI, up2_n _ _ (fun y => z y.1)]
      rw [o, o, o, o, o]; exact old
/-- the next channel of the same sender -/
theorem IV.w7 (h : IV σ pl gq ci gr nc ot LL N nu) (hc : kO σ c 2) (hv : (ci c : Int) < v ∧ v < (nu 16 : Int)) : IV (pI σ c 7 v) pl gq ci gr nc ot LL N nu := by
  have n16 := h.n16
  refine h.wS hc (Or.inl rfl) (Or.inl ⟨rfl, by decide⟩) (show (-2147483648 : Int) ≤ v ∧ v ≤ 2147483647 by omega) (fun _ _ _ => rfl) ?_ (fun x _ _ p => p.oth hc (Or.inl rfl)) (Nat.le_refl _)
  obtain ⟨a1, a2, a3, a4, a5, a6, ⟨r0, x1, z1, z2⟩, a8⟩ := h.2.1
  have oo : ∀ a j l, kO σ a l → l ≠ 2 → gI (pI σ c 7 v) a j = gI σ a j := fun a j l ha hl => by rw [gI_pI, up2_n _ _ (fun z => absurd z.1 (ha.ne hc hl))]
  refine ⟨a1, a2, a3, fun c' hc' hi => ?_, fun r hr t ht q hi => ?_, a6, ⟨r0, x1, by rw [oo r0 10 9 x1 (by decide)]; exact z1, by rw [oo r0 11 9 x1 (by decide)]; exact z2⟩, a8⟩
  · have old := a4 c' hc' hi
    have o1 : ∀ j, j ≠ 7 → gI (pI σ c 7 v) c' j = gI σ c' j := fun j w => by rw [gI_pI, up2_n _ _ (fun z => w z.2)]
    rw [o1 1 (by decide), o1 2 (by decide)]
    by_cases z : c' = c
    · subst z; rw [gI_pI, up2_s]; exact ⟨old.1, old.2.1, Or.inr hv⟩
    · rw [gI_pI, up2_n _ _ (fun y => z y.1)]; exact old
  · rw [oo r _ 9 hr (by decide)] at hi
    rw [oo r _ 9 hr (by decide), oo t _ 10 ht (by decide), oo t _ 10 ht (by decide), oo t _ 10 ht (by decide), oo t _ 10 ht (by decide), oo t _ 10 ht (by decide)]; exact a5 r hr t ht q hi
theorem PlC.r9 {x : Nat} (h : PlC σ gq ci ot x) (i : IV σ pl gq ci gr nc ot LL N nu) (hr : kO σ r 9) (hk : (k = 10 ∧ gI σ r 10 ≤ v) ∨ (k = 11 ∧ gI σ r 11 ≤ v)) : PlC (pI σ r k v) gq ci ot x := by
  obtain ⟨p1, p2, p3, p4, p5, p6, p7⟩ := h
  have le : ∀ j, j = 10 ∨ j = 11 → gI σ r j ≤ gI (pI σ r k v) r j := fun j hj => by
    by_cases z : j = k
    · rw [z, gI_pI, up2_s]; rcases hk with w | w
      · rw [w.1]; exact w.2
      · rw [w.1]; exact w.2
    · rw [gI_pI, up2_n _ _ (fun y => z y.2)]; exact Int.le_refl _
  refine ⟨p1, fun w r' hr' => ?_, fun w r' hr' => ?_, p4, p5, p6, fun w t' ht' q hc => ?_⟩
  · rw [i.un (show kO σ r' 9 from hr') hr rfl]; have := p2 w r hr; have := le 10 (Or.inl rfl); omega
  · rw [i.un (show kO σ r' 9 from hr') hr rfl]; have := p3 w r hr; have := le 11 (Or.inr rfl); omega
  · rw [gI_pI, up2_n _ _ (fun z => absurd z.1 ((show kO σ t' 10 from ht').ne hr (by decide)))]; exact p7 w t' ht' q hc
/-- one more channel counts -/
theorem IV.chn1 (h : IV σ pl gq ci gr nc ot LL N nu) (hr : kO σ r 9) (hc : kO σ c 2) (hcc : ci c = nu 16) (hn : nu 16 < nu 1) (c1 : 0 ≤ gI σ c 1 ∧ gI σ c 1 < (nu 0 : Int)) (c2 : 0 ≤ gI σ c 2 ∧ gI σ c 2 < (nu 0 : Int)) (c7 : gI σ c 7 = -1) : IV (pI σ r 11 ((nu 16 : Int) + 1)) pl gq ci gr nc ot LL N (up1 nu 16 (nu 16 + 1)) := by
  have tc := h.tc hr
  have u : ∀ k, k ≠ 16 → up1 nu 16 (nu 16 + 1) k = nu k := fun k q => up1_n _ _ q
  have u16 : up1 nu 16 (nu 16 + 1) 16 = nu 16 + 1 := up1_s _ _ _
  generalize up1 nu 16 (nu 16 + 1) = nu' at u u16 ⊢
  refine h.wS hr (Or.inr (Or.inl rfl)) (Or.inr (Or.inl ⟨rfl, by decide⟩)) (show (0 : Int) ≤ (nu 16 : Int) + 1 ∧ (nu 16 : Int) + 1 ≤ (nu 1 : Int) by omega) (fun k _ w => u k w) ?_ (fun x _ _ p => p.r9 h hr (Or.inr ⟨rfl, by omega⟩)) (by omega)
  obtain ⟨a1, a2, a3, a4, a5, a6, ⟨r0, x1, z1, z2⟩, a8⟩ := h.2.1
  have er := h.un x1 hr rfl; subst er
  have oo : ∀ a j l, kO σ a l → l ≠ 9 → gI (pI σ r0 11 ((nu 16 : Int) + 1)) a j = gI σ a j := fun a j l ha hl => by rw [gI_pI, up2_n _ _ (fun z => absurd z.1 (ha.ne hr hl))]
  have e10 : gI (pI σ r0 11 ((nu 16 : Int) + 1)) r0 10 = gI σ r0 10 := by rw [gI_pI, up2_n _ _ (fun z => absurd z.2 (by decide))]
  have e11 : gI (pI σ r0 11 ((nu 16 : Int) + 1)) r0 11 = (nu 16 : Int) + 1 := by rw [gI_pI, up2_s]
  have pl9 := a6.2.2.2
  refine ⟨by rw [u 0 (by decide), u 1 (by decide)]; exact a1, fun t ht q j hj => a2 t ht q j (by rw [← u 0 (by decide)]; exact hj), fun t ht j hj => a3 t ht j (by rw [← u 1 (by decide)]; exact hj), fun c' hc' hi => ?_, fun r hr' t ht q hi => ?_, by rw [u 10 (by decide), u 1 (by decide)]; exact a6, ⟨r0, x1, by rw [e10, u 15 (by decide)]; exact z1, by rw [e11, u16]; omega⟩, a8⟩
  · have hc' : kO σ c' 2 := hc'
    rw [oo c' _ 2 hc' (by decide), oo c' _ 2 hc' (by decide), oo c' _ 2 hc' (by decide), u 0 (by decide), u16]
    rw [u16] at hi
    by_cases z : ci c' < nu 16
    · have := a4 c' hc' z
      exact ⟨this.1, this.2.1, by omega⟩
    · have ec : c' = c := by
        obtain ⟨arr, ear, far⟩ := P_9_4 h.1 hr
        have kar : kO σ arr 112 := h.1.kd hr rfl ear rfl
        have g1 := (pl9 c' hc'.1 (by rw [hc'.2]; rfl) arr kar).2.2 hc'.2
        have g2 := (pl9 c hc.1 (by rw [hc.2]; rfl) arr kar).2.2 hc.2
        exact h.un' hc' hc rfl (by omega) (by omega)
      rw [ec]; exact ⟨c1, c2, Or.inl c7⟩
  · rw [h.un (show kO σ r 9 from hr') hr rfl] at hi ⊢
    rw [e10] at hi
    rw [e11, oo t _ 10 ht (by decide), oo t _ 10 ht (by decide), oo t _ 10 ht (by decide), oo t _ 10 ht (by decide), oo t _ 10 ht (by decide), u16, u 17 (by decide)]
    have := a5 r0 hr t ht q hi
    exact ⟨by omega, by omega, by omega, this.2.2.2⟩
/-- one more task counts -/
theorem IV.tk1 (h : IV σ pl gq ci gr nc ot LL N nu) (hr : kO σ r 9) (ht : kO σ t 10) (hq : gq t = 1) (hct : ci t = nu 15) (hn : nu 15 < nu 0) (t11 : gI σ t 11 + gI σ t 12 ≤ (nu 16 : Int)) (t14 : -1 ≤ gI σ t 14 ∧ gI σ t 14 < (nu 16 : Int)) (t15 : -1 ≤ gI σ t 15 ∧ gI σ t 15 < (nu 16 : Int)) (t0 : gI σ t 0 < (nu 17 : Int)) : IV (pI σ r 10 ((nu 15 : Int) + 1)) pl gq ci gr nc ot LL N (up1 nu 15 (nu 15 + 1)) := by
  have tc := h.tc hr
  have u : ∀ k, k ≠ 15 → up1 nu 15 (nu 15 + 1) k = nu k := fun k q => up1_n _ _ q
  have u15 : up1 nu 15 (nu 15 + 1) 15 = nu 15 + 1 := up1_s _ _ _
  generalize up1 nu 15 (nu 15 + 1) = nu' at u u15 ⊢
  refine h.wS hr (Or.inr (Or.inl rfl)) (Or.inr (Or.inl ⟨rfl, by decide⟩)) (show (0 : Int) ≤ (nu 15 : Int) + 1 ∧ (nu 15 : Int) + 1 ≤ (nu 0 : Int) by omega) (fun k w _ => u k w) ?_ (fun x _ _ p => p.r9 h hr (Or.inl ⟨rfl, by omega⟩)) (by rw [u 16 (by decide)]; exact Nat.le_refl _)
  obtain ⟨a1, a2, a3, a4, a5, a6, ⟨r0, x1, z1, z2⟩, a8⟩ := h.2.1
  have er := h.un x1 hr rfl; subst er
  have oo : ∀ a j l, kO σ a l → l ≠ 9 → gI (pI σ r0 10 ((nu 15 : Int) + 1)) a j = gI σ a j := fun a j l ha hl => by rw [gI_pI, up2_n _ _ (fun z => absurd z.1 (ha.ne hr hl))]
  have e11 : gI (pI σ r0 10 ((nu 15 : Int) + 1)) r0 11 = gI σ r0 11 := by rw [gI_pI, up2_n _ _ (fun z => absurd z.2 (by decide))]
  have e10 : gI (pI σ r0 10 ((nu 15 : Int) + 1)) r0 10 = (nu 15 : Int) + 1 := by rw [gI_pI, up2_s]
  refine ⟨by rw [u 0 (by decide), u 1 (by decide)]; exact a1, fun t ht q j hj => a2 t ht q j (by rw [← u 0 (by decide)]; exact hj), fun t ht j hj => a3 t ht j (by rw [← u 1 (by decide)]; exact hj), fun c' hc' hi => ?_, fun r hr' t' ht' q hi => ?_, by rw [u 10 (by decide), u 1 (by decide)]; exact a6, ⟨r0, x1, by rw [e10, u15]; omega, by rw [e11, u 16 (by decide)]; exact z2⟩, a8⟩
  · rw [u 16 (by decide)] at hi
    rw [oo c' _ 2 hc' (by decide), oo c' _ 2 hc' (by decide), oo c' _ 2 hc' (by decide), u 0 (by decide), u 16 (by decide)]; exact a4 c' hc' hi
  · rw [h.un (show kO σ r 9 from hr') hr rfl] at hi ⊢
    rw [e10] at hi
    have ht' : kO σ t' 10 := ht'
    rw [e11, oo t' _ 10 ht' (by decide), oo t' _ 10 ht' (by decide), oo t' _ 10 ht' (by decide), oo t' _ 10 ht' (by decide), oo t' _ 10 ht' (by decide), u 16 (by decide), u 17 (by decide)]
    by_cases z : ci t' < nu 15
    · exact a5 r0 hr t' ht' q (by omega)
    · rw [h.un' ht' ht rfl (by omega) (by omega)]; exact ⟨by omega, t14, by omega, t0⟩
/-- a channel is hung at its sender -/
theorem IV.addC1 (h : IV σ pl gq ci gr nc ot LL N nu) (hr : kO σ r 9) (hc : kO σ c 2) (hcc : ci c = nu 16) (hn : nu 16 < nu 1) (c1 : 0 ≤ gI σ c 1 ∧ gI σ c 1 < (nu 0 : Int)) (c2 : 0 ≤ gI σ c 2 ∧ gI σ c 2 < (nu 0 : Int)) (c7 : gI σ c 7 = -1) (ht : kO σ t 10) : IV (pI (pI (pI σ t 14 (nu 16 : Int)) t 15 (nu 16 : Int)) r 11 ((nu 16 : Int) + 1)) pl gq ci gr nc ot LL N (up1 nu 16 (nu 16 + 1)) := by
  have ne : t ≠ r := ht.ne hr (by decide)
  rw [pI_comm (a := t) (j := 15) (fun z => ne z.1), pI_comm (a := t) (j := 14) (fun z => ne z.1)]
  have i1 := h.chn1 hr hc hcc hn c1 c2 c7
  have u16 : up1 nu 16 (nu 16 + 1) 16 = nu 16 + 1 := up1_s _ _ _
  have i2 := i1.wTl (k := 14) (v := (nu 16 : Int)) (show kO (pI σ r 11 ((nu 16 : Int) + 1)) t 10 from ht) (Or.inl ⟨rfl, by omega, by rw [u16]; omega⟩)
  exact i2.wTl (k := 15) (v := (nu 16 : Int)) (show kO (pI (pI σ r 11 ((nu 16 : Int) + 1)) t 14 (nu 16 : Int)) t 10 from ht) (Or.inr (Or.inl ⟨rfl, by omega, by rw [u16]; omega⟩))
theorem IV.addC2 (h : IV σ pl gq ci gr nc ot LL N nu) (hr : kO σ r 9) (hc : kO σ c 2) (hcc : ci c = nu 16) (hn : nu 16 < nu 1) (c1 : 0 ≤ gI σ c 1 ∧ gI σ c 1 < (nu 0 : Int)) (c2 : 0 ≤ gI σ c 2 ∧ gI σ c 2 < (nu 0 : Int)) (c7 : gI σ c 7 = -1) (ht : kO σ t 10) (hd : kO σ d 2) (hdd : ci d < nu 16) : IV (pI (pI (pI σ d 7 (nu 16 : Int)) t 15 (nu 16 : Int)) r 11 ((nu 16 : Int) + 1)) pl gq ci gr nc ot LL N (up1 nu 16 (nu 16 + 1)) := by
  have ne : t ≠ r := ht.ne hr (by decide)
  have ne2 : d ≠ r := hd.ne hr (by decide)
  rw [pI_comm (a := t) (j := 15) (fun z => ne z.1), pI_comm (a := d) (j := 7) (fun z => ne2 z.1)]
  have i1 := h.chn1 hr hc hcc hn c1 c2 c7
  have u16 : up1 nu 16 (nu 16 + 1) 16 = nu 16 + 1 := up1_s _ _ _
  have i2 := i1.w7 (v := (nu 16 : Int)) (show kO (pI σ r 11 ((nu 16 : Int) + 1)) d 2 from hd) ⟨by omega, by rw [u16]; omega⟩
  exact i2.wTl (k := 15) (v := (nu 16 : Int)) (show kO (pI (pI σ r 11 ((nu 16 : Int) + 1)) d 7 (nu 16 : Int)) t 10 from ht) (Or.inr (Or.inl ⟨rfl, by omega, by rw [u16]; omega⟩))
end LAY

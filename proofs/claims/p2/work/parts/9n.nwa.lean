/-! a new array of ints or longs -/
section NWA
variable {σ σ' σ1 : Sg} {gq ci gr nc N nu : Nat → Nat} {ot : Nat → Nat → Int} {LL : Nat → List Nat} {pl th q : Nat}
theorem SA.gwA (h : SA σ gq ci gr nu) (g : Gw [q] σ σ') (hk : gk σ' q = 100 ∨ gk σ' q = 101) (hI : ∀ k, rng (gI σ' q k)) (hP : ∀ k, gP σ' q k = none) : SA σ' gq ci gr nu := by
  obtain ⟨a1, a2, a3, a4, a5, a6⟩ := h
  have e := g.2.2.1
  have nq : q ∉ gD σ := g.new (List.mem_singleton.mpr rfl)
  have gq0 : gr q = 0 := by
    by_cases w : gr q = 0
    · exact w
    · exact absurd (a1 q w).1 nq
  have lb : ∀ a ∈ gD σ, labN σ' gr a = labN σ gr a := fun a ha => labE e ha
  have spl : ∀ a ∈ gD σ', a ∈ gD σ ∨ a = q := fun a ha => by
    rw [g.1] at ha; rcases List.mem_append.mp ha with w | w
    · exact Or.inl w
    · exact Or.inr (List.mem_singleton.mp w)
  refine ⟨fun a ha => (a1 a ha).up e, fun a ha k => ?_, fun a ha k hk9 => ?_, fun a ha k b hb => ?_, fun a ha b hb hk9 hu => ?_, fun a ha b hb hk9 hu hqq hcc => ?_⟩
  · rcases spl a ha with w | w
    · rw [lb a w, (g.2.2.2 a w k).1]; exact a2 a w k
    · subst w
      have r := hI k; unfold rng at r
      rcases hk with v | v
      · rw [labI ⟨ha, v⟩, gq0]; exact (show (-2147483648 : Int) ≤ gI σ' a k ∧ gI σ' a k ≤ 2147483647 by omega)
      · rw [labO ⟨ha, v⟩ (by decide)]; exact (show (-2147483648 : Int) ≤ gI σ' a k ∧ gI σ' a k ≤ 2147483647 by omega)
  · rcases spl a ha with w | w
    · rw [(e a w).2.1, (e a w).2.2] at hk9; rw [(g.2.2.2 a w k).2.1]; exact a3 a w k hk9
    · subst w
      rcases hk with v | v <;> rw [v] at hk9 <;> exact absurd hk9 (by simp [lbN])
  · rcases spl a ha with w | w
    · rw [(g.2.2.2 a w k).2.1] at hb; rw [(e a w).2.1]
      have old := a4 a w k b hb
      by_cases z : lbX (gk σ a) k = true
      · rw [(e b (old.2 z).1).2.2]; exact ⟨old.1, fun _ => (old.2 z).up e⟩
      · exact ⟨lbT_off (by revert z; cases lbX (gk σ a) k <;> simp), fun q => absurd q z⟩
    · subst w; rw [hP] at hb; cases hb
  · rcases spl a ha with w | w
    · rcases spl b hb with v | v
      · rw [(e a w).2.1, (e b v).2.1] at hk9; rw [(e a w).2.1] at hu; exact a5 a w b v hk9 hu
      · subst v; rcases hk with z | z <;> rw [z] at hk9 <;> rw [hk9] at hu <;> exact absurd hu (by decide)
    · subst w; rcases hk with z | z <;> rw [z] at hu <;> exact absurd hu (by decide)
  · rcases spl a ha with w | w
    · rcases spl b hb with v | v
      · rw [(e a w).2.1, (e b v).2.1] at hk9; rw [(e a w).2.1] at hu hcc; exact a6 a w b v hk9 hu hqq hcc
      · subst v; rcases hk with z | z <;> rw [z] at hk9 <;> rw [hk9] at hu <;> exact absurd hu (by decide)
    · subst w; rcases hk with z | z <;> rw [z] at hu <;> exact absurd hu (by decide)
theorem SS.gwA {own : Nat → Nat} (h : SS σ pl gq ci ot LL N nu) (hp : HP σ pl LL own) (g : Gw [q] σ σ') (hk : gk σ' q = 100 ∨ gk σ' q = 101) : SS σ' pl gq ci ot LL N nu := by
  obtain ⟨a1, a2, a3, a4, a5, a6, a7, a8⟩ := h
  have hq : ∀ a ∈ gD σ, gq a = gq a ∧ ci a = ci a := fun _ _ => ⟨rfl, rfl⟩
  have kE : ∀ l, l ≠ 100 → l ≠ 101 → ∀ x ∈ [q], gk σ' x ≠ l := fun l l1 l2 x hx => by
    rw [List.mem_singleton.mp hx]; rcases hk with v | v <;> omega
  refine ⟨g.2.1, a2, fun g9 hg9 => by rw [ns_gw hp g hq g9]; exact a3 g9 hg9, fun x hx w => a4 x (g.old (kE 1 (by decide) (by decide)) hx) w, ?_, fun x hx hL => ?_, fun x hx w d hd => ?_, by rw [nt_gw hp g]; exact a8⟩
  · rw [cnt_gw g hq]
    have : [q].countP (fun x => decide (gk σ' x = 1 ∧ gq x = 50)) = 0 := by rcases hk with v | v <;> simp [v]
    omega
  · have hx := g.old (kE 1 (by decide) (by decide)) hx
    exact PlC.gw (a6 x hx hL) g hq hx.1 (fun y hy => ⟨kE 9 (by decide) (by decide) y hy, kE 120 (by decide) (by decide) y hy, kE 10 (by decide) (by decide) y hy⟩)
  · have hx := g.old (kE 1 (by decide) (by decide)) hx
    rw [(g.2.2.2 d (hp.2.2.1 x d hd).2.1 3).1]; exact a7 x hx w d hd
/-- all but the room -/
def IW (σ : Sg) (pl : Nat) (gq ci gr nc : Nat → Nat) (ot : Nat → Nat → Int) (LL : Nat → List Nat) (N nu : Nat → Nat) : Prop :=
  SA σ gq ci gr nu ∧ SB σ gq ci nu ∧ SC σ gq N ∧ SS σ pl gq ci ot LL N nu ∧ SO σ gq gr nc ot ∧ (RG σ ∧ SJ σ gr N) ∧ ∃ own, HP σ pl LL own
theorem IV.iw (h : IV σ pl gq ci gr nc ot LL N nu) : IW σ pl gq ci gr nc ot LL N nu := ⟨h.1, h.2.1, h.2.2.1, h.2.2.2.1, h.2.2.2.2.1, h.2.2.2.2.2.2⟩
theorem IW.iv (h : IW σ pl gq ci gr nc ot LL N nu) (u : SU σ gq N nu) : IV σ pl gq ci gr nc ot LL N nu := ⟨h.1, h.2.1, h.2.2.1, h.2.2.2.1, h.2.2.2.2.1, u, h.2.2.2.2.2⟩
theorem IW.gwA (h : IW σ pl gq ci gr nc ot LL N nu) (g : Gw [q] σ σ') (hk : gk σ' q = 100 ∨ gk σ' q = 101) (hP : ∀ k, gP σ' q k = none) (hR : RG σ') : IW σ' pl gq ci gr nc ot LL N nu := by
  obtain ⟨i1, i2, i3, i4, i5, i7, own, i8⟩ := h
  have hq : ∀ a ∈ gD σ, gq a = gq a ∧ ci a = ci a := fun _ _ => ⟨rfl, rfl⟩
  have kE : ∀ l, l ≠ 100 → l ≠ 101 → ∀ x ∈ [q], gk σ' x ≠ l := fun l l1 l2 x hx => by
    rw [List.mem_singleton.mp hx]; rcases hk with v | v <;> omega
  refine ⟨i1.gwA g hk (fun k => hR q k) hP, i2.gw g hq (fun x hx => ⟨kE 9 (by decide) (by decide) x hx, kE 120 (by decide) (by decide) x hx, kE 112 (by decide) (by decide) x hx⟩) (fun x hx w => absurd w (kE 2 (by decide) (by decide) x hx)) (fun x hx w => absurd w (kE 10 (by decide) (by decide) x hx)) (fun x hx => by rw [List.mem_singleton.mp hx]; rcases hk with v | v <;> rw [v] <;> exact ⟨rfl, rfl⟩), i3.gw i1 g hq (fun x hx => ⟨kE 9 (by decide) (by decide) x hx, kE 11 (by decide) (by decide) x hx, kE 3 (by decide) (by decide) x hx, kE 7 (by decide) (by decide) x hx⟩), i4.gwA i8 g hk, i5.gw i1 g hq (fun x hx => ⟨kE 4 (by decide) (by decide) x hx, kE 5 (by decide) (by decide) x hx⟩), ⟨hR, i7.2.gw g (fun a ha => (i1.1 a ha).1) (fun x hx w => absurd w (kE 0 (by decide) (by decide) x hx)) (fun x hx w => absurd w (kE 2 (by decide) (by decide) x hx)) (fun x hx w => absurd w (kE 10 (by decide) (by decide) x hx))⟩, own, i8.gw g (fun x hx w => absurd w (kE 1 (by decide) (by decide) x hx)) (fun x hx w => absurd w (kE 0 (by decide) (by decide) x hx))⟩
/-- a reference that no other part speaks of -/
theorem IW.wP {l a k : Nat} {v : Option Nat} (h : IW σ pl gq ci gr nc ot LL N nu) (ha : kO σ a l) (hl : (l < 100 ∧ l ≠ 1 ∧ k < 64) ∧ l * 64 + k ∈ [8 * 64 + 2, 4 * 64 + 5, 4 * 64 + 6]) (hn : v ≠ none) (hv : ∀ b, v = some b → lbT nu l (gq a) (ci a) k (gq b) (ci b) (gn σ b) (gr b)) (hx : ∀ b, v = some b → kO σ b (lbG l k)) : IW (pP σ a k v) pl gq ci gr nc ot LL N nu := by
  obtain ⟨i1, i2, i3, i4, i5, i7, own, i8⟩ := h
  have s : Sk [l * 64 + k] gr σ (pP σ a k v) := Sk.pP (by rw [fcdO ha hl.1]; exact List.mem_singleton.mpr rfl)
  have d : ∀ x, x ≠ 8 * 64 + 2 → x ≠ 4 * 64 + 5 → x ≠ 4 * 64 + 6 → x ∉ [l * 64 + k] := fun x w1 w2 w3 w => by
    have e := List.mem_singleton.mp w
    have := hl.2; rw [← e] at this; simp only [List.mem_cons, List.mem_nil_iff, or_false] at this; omega
  have d2 : ∀ L : List Nat, (∀ x ∈ L, x ≠ 8 * 64 + 2 ∧ x ≠ 4 * 64 + 5 ∧ x ≠ 4 * 64 + 6) → ∀ x ∈ L, x ∉ [l * 64 + k] := fun L hL x hx => d x (hL x hx).1 (hL x hx).2.1 (hL x hx).2.2
  exact ⟨i1.pP (fun _ => hn) (by rw [ha.2]; exact hv) (by rw [ha.2]; exact fun _ => hx), i2.sk s (d2 _ (by decide)), i3.sk s (d2 _ (by decide)), i4.sk i8 s (d2 _ (by decide)), i5.sk i1 s (d2 _ (by decide)), ⟨i7.1, i7.2.sk s (d2 _ (by decide))⟩, own, i8.sk s (d2 _ (by decide))⟩
/-- more places for SETS -/
theorem IV.cap {m : Nat} (h : IV σ pl gq ci gr nc ot LL N nu) (h2 : nu 2 ≤ m) (hw : ∀ p, kO σ p 8 → ∀ w, gP σ p 2 = some w → 4 * m ≤ gn σ w) : IV σ pl gq ci gr nc ot LL N (up1 nu 2 m) := by
  obtain ⟨i1, i2, i3, i4, i5, i6, i7, own, i8⟩ := h
  have u : ∀ k, k ≠ 2 → up1 nu 2 m k = nu k := fun k q => up1_n _ _ q
  have u2 : up1 nu 2 m 2 = m := up1_s _ _ _
  refine ⟨?_, ?_, i3, ?_, i5, ?_, i7, own, i8⟩
  · obtain ⟨a1, a2, a3, a4, a5⟩ := i1
    refine ⟨a1, fun a ha k => ⟨(a2 a ha k).1, Int.le_trans (a2 a ha k).2 ?_⟩, a3, fun a ha k b e => ⟨?_, (a4 a ha k b e).2⟩, a5⟩
    · unfold lbHi; rw [u 0 (by decide), u 1 (by decide), u2]
      repeat' (first | exact Int.le_refl _ | omega | split)
    · have o := (a4 a ha k b e).1
      by_cases z : gk σ a = 8 ∧ k = 2
      · rw [z.1, z.2] at o ⊢
        have := hw a ⟨ha, z.1⟩ b (z.2 ▸ e)
        have o' : 4 * nu 2 ≤ gn σ b ∧ 256 ≤ gn σ b ∧ gn σ b ≤ 240100 ∧ gr b = 0 := o
        exact (show 4 * up1 nu 2 m 2 ≤ gn σ b ∧ 256 ≤ gn σ b ∧ gn σ b ≤ 240100 ∧ gr b = 0 from ⟨by rw [u2]; exact this, o'.2⟩)
      · unfold lbT at o ⊢
        by_cases z8 : gk σ a = 8
        · have zk : k ≠ 2 := fun w => z ⟨z8, w⟩
          rw [z8] at o ⊢; simp [zk]
        · simp only [if_neg z8] at o ⊢; exact o
  · unfold SB at i2 ⊢; rw [u 0 (by decide), u 1 (by decide), u 10 (by decide), u 15 (by decide), u 16 (by decide), u 17 (by decide)]; exact i2
  · unfold SS at i4 ⊢; rw [u 10 (by decide), u 16 (by decide)]; exact i4
  · unfold SU at i6 ⊢; rw [u 0 (by decide), u 5 (by decide), u 8 (by decide), u 9 (by decide), u 10 (by decide), u 12 (by decide), u 13 (by decide), u 14 (by decide)]; exact i6
end NWA
theorem i_J9_min_b {σ : Sg} {x y : Int} {Q : Sg → Int → Prop} {X : Sg → String → Prop} (hQ : ∀ r : Int, (r ≤ x ∧ r ≤ y ∧ (r = x ∨ r = y)) → Q σ r) : wpC_J9_min_7cf53 x y σ Q X := sC_minI (fun r a b c => hQ r ⟨a, b, c⟩)

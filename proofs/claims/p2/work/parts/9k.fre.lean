section FRE
variable {σ σ' : Sg} {gq ci gr nc N N' nu : Nat → Nat} {ot : Nat → Nat → Int} {LL : Nat → List Nat} {pl c : Nat}
/-- the goal of a cell in hand -/
theorem IV.goal {v : Int} (h : IV σ pl gq ci gr nc ot LL N nu) (hc : kO σ c 0) (hf : ∀ x, c ∉ LL x) (hv : -1 ≤ v ∧ v ≤ (nu 1 : Int) - 1) : IV (pI σ c 3 v) pl gq ci gr nc ot LL N nu := by
  obtain ⟨i1, i2, i3, i4, i5, i6, i7, own, i8⟩ := id h
  have s : Sk [3] gr σ (pI σ c 3 v) := Sk.pI (by rw [fcdO hc (by decide)]; decide)
  refine ⟨i1.pI (fun _ => by rw [labO hc (by decide)]; exact hv), i2.sk s (by decide), i3.sk s (by decide), ?_, i5.sk i1 s (by decide), i6.sk s rfl rfl (by decide), ⟨RG.pI i7.1 (lb_rng (l := 0) (k := 3) h.nu2.1 h.nu2.2.1 h.nu2.2.2 hv), i7.2.sk s (by decide)⟩, own, i8.sk s (by decide)⟩
  obtain ⟨a1, a2, a3, a4, a5, a6, a7, a8⟩ := i4
  refine ⟨a1, a2, a3, a4, a5, fun x hx hL => PlC.sk (a6 x hx hL) s (by decide), fun x hx hq d hd => ?_, a8⟩
  rw [gI_pI, up2_n (b := d) (j := 3) _ _ (fun q => hf x (by rw [← q.1]; exact hd))]
  exact a7 x hx hq d hd
theorem lbT_off {l k qa ca qb cb nb rb : Nat} (h : lbX l k = false) : lbT nu l qa ca k qb cb nb rb := by
  unfold lbX at h
  unfold lbT
  by_cases e0 : l = 0
  · rw [if_pos e0] at h ⊢
    have m := of_decide_eq_false h; simp only [List.mem_cons, List.mem_nil_iff, or_false, not_or] at m
    rw [if_neg (by omega)]; trivial
  rw [if_neg e0] at h ⊢
  by_cases e2 : l = 2
  · rw [if_pos e2] at h ⊢
    have m := of_decide_eq_false h; simp only [List.mem_cons, List.mem_nil_iff, or_false, not_or] at m
    rw [if_neg (by omega)]; trivial
  rw [if_neg e2] at h ⊢
  by_cases e3 : l = 3
  · rw [if_pos e3] at h ⊢
    have m := of_decide_eq_false h; simp only [List.mem_cons, List.mem_nil_iff, or_false, not_or] at m
    rw [if_neg (by omega), if_neg (by omega)]; trivial
  rw [if_neg e3] at h ⊢
  by_cases e4 : l = 4
  · rw [if_pos e4] at h ⊢
    have m := of_decide_eq_false h; simp only [List.mem_cons, List.mem_nil_iff, or_false, not_or] at m
    rw [if_neg (by omega), if_neg (by omega), if_neg (by omega), if_neg (by omega), if_neg (by omega), if_neg (by omega), if_neg (by omega), if_neg (by omega), if_neg (by omega)]; trivial
  rw [if_neg e4] at h ⊢
  by_cases e5 : l = 5
  · rw [if_pos e5] at h ⊢
    have m := of_decide_eq_false h; simp only [List.mem_cons, List.mem_nil_iff, or_false, not_or] at m
    rw [if_neg (by omega), if_neg (by omega), if_neg (by omega)]; trivial
  rw [if_neg e5] at h ⊢
  by_cases e7 : l = 7
  · rw [if_pos e7] at h ⊢
    have m := of_decide_eq_false h; simp only [List.mem_cons, List.mem_nil_iff, or_false, not_or] at m
    rw [if_neg (by omega), if_neg (by omega), if_neg (by omega), if_neg (by omega)]; trivial
  rw [if_neg e7] at h ⊢
  by_cases e8 : l = 8
  · rw [if_pos e8] at h ⊢
    have m := of_decide_eq_false h; simp only [List.mem_cons, List.mem_nil_iff, or_false, not_or] at m
    rw [if_neg (by omega)]; trivial
  rw [if_neg e8] at h ⊢
  by_cases e9 : l = 9
  · rw [if_pos e9] at h ⊢
    have m := of_decide_eq_false h; simp only [List.mem_cons, List.mem_nil_iff, or_false, not_or] at m
    rw [if_neg (by omega), if_neg (by omega), if_neg (by omega), if_neg (by omega), if_neg (by omega), if_neg (by omega), if_neg (by omega)]; trivial
  rw [if_neg e9] at h ⊢
  by_cases e10 : l = 10
  · rw [if_pos e10] at h ⊢
    have m := of_decide_eq_false h; simp only [List.mem_cons, List.mem_nil_iff, or_false, not_or] at m
    rw [if_neg (by omega), if_neg (by omega), if_neg (by omega)]; trivial
  rw [if_neg e10] at h ⊢
  by_cases e11 : l = 11
  · rw [if_pos e11] at h ⊢
    have m := of_decide_eq_false h; simp only [List.mem_cons, List.mem_nil_iff, or_false, not_or] at m
    rw [if_neg (by omega), if_neg (by omega)]; trivial
  rw [if_neg e11] at h ⊢
  by_cases e12 : l = 12
  · rw [if_pos e12] at h ⊢
    have m := of_decide_eq_false h; simp only [List.mem_cons, List.mem_nil_iff, or_false, not_or] at m
    rw [if_neg (by omega)]; trivial
  rw [if_neg e12] at h ⊢
  by_cases e111 : l = 111
  · rw [if_pos e111] at h; cases h
  rw [if_neg e111] at h ⊢
  by_cases e112 : l = 112
  · rw [if_pos e112] at h; cases h
  rw [if_neg e112] at h ⊢
  by_cases e115 : l = 115
  · rw [if_pos e115] at h; cases h
  rw [if_neg e115] at h ⊢
  by_cases e120 : l = 120
  · rw [if_pos e120] at h; cases h
  rw [if_neg e120] at h ⊢
  by_cases e200 : l = 200
  · rw [if_pos e200] at h; cases h
  rw [if_neg e200] at h ⊢
  trivial
/-- a new cell -/
theorem IV.newCell {q q4 : Nat} (h : IV σ pl gq ci gr nc ot LL N nu) (g : Gw [q, q4] σ σ') (kq : gk σ' q = 0) (k4 : gk σ' q4 = 101) (n4 : gn σ' q4 = 8) (hP : gP σ' q 0 = some q4) (hI : ∀ k, gI σ' q k = if k = 3 then -1 else if k = 4 then -1 else 0) (hI4 : ∀ k, gI σ' q4 k = 0) (hPq : ∀ k, k ≠ 0 → gP σ' q k = none) (hP4 : ∀ k, gP σ' q4 k = none) (hR : RG σ') (hc : gc σ' = gc σ + 2) (hs : gs σ' = gs σ + 16) (hn : ∀ a, a ∉ [q, q4] → gn σ' a = gn σ a)
    (hJ : gJ σ' q 5 = 0 ∧ gJ σ' q 6 = 0) (hb : N 2 + 1 ≤ 80000) (hN : NF [1, 2] N N') (hN1 : N' 1 = N 1 + 1) (hN2 : N' 2 = N 2 + 1) : IV σ' pl gq ci gr nc ot LL N' nu := by
  obtain ⟨i1, i2, i3, i4, i5, i6, i7, own, i8⟩ := id h
  have e := g.2.2.1
  have hq : ∀ a ∈ gD σ, gq a = gq a ∧ ci a = ci a := fun _ _ => ⟨rfl, rfl⟩
  have mE : ∀ x ∈ [q, q4], x = q ∨ x = q4 := fun x hx => by simpa using hx
  have kE : ∀ x ∈ [q, q4], gk σ' x = 0 ∨ gk σ' x = 101 := fun x hx => by rcases mE x hx with w | w <;> subst w <;> simp [kq, k4]
  have N11 : ∀ g9, 3 ≤ g9 → N' g9 = N g9 := fun g9 w => hN g9 (by simp only [List.mem_cons, List.mem_nil_iff, or_false, not_or]; omega)
  have sc : SC σ gq N' := i3.less (fun g9 w => by rw [N11 g9 (by omega)]; exact Nat.le_refl _) (N11 5 (by omega))
  refine ⟨?_, i2.gw g hq (fun x hx => by rcases kE x hx with w | w <;> rw [w] <;> decide) (fun x hx w => by rcases kE x hx with v | v <;> rw [v] at w <;> cases w) (fun x hx w => by rcases kE x hx with v | v <;> rw [v] at w <;> cases w) (fun x hx => by rcases kE x hx with v | v <;> rw [v] <;> exact ⟨rfl, rfl⟩), sc.gw i1 g hq (fun x hx => by rcases kE x hx with w | w <;> rw [w] <;> decide), ?_, i5.gw i1 g hq (fun x hx => by rcases kE x hx with w | w <;> rw [w] <;> decide), ?_, ⟨hR, ?_⟩, own, i8.gw g (fun x hx w => by rcases kE x hx with v | v <;> rw [v] at w <;> cases w) (fun x hx w => ?_)⟩
  · obtain ⟨a1, a2, a3, a4, a5, a6⟩ := i1
    have lb : ∀ a ∈ gD σ, labN σ' gr a = labN σ gr a := fun a ha => labE e ha
    have spl : ∀ a ∈ gD σ', a ∈ gD σ ∨ a = q ∨ a = q4 := fun a ha => by
      rw [g.1] at ha; rcases List.mem_append.mp ha with w | w
      · exact Or.inl w
      · exact Or.inr (mE a w)
    refine ⟨fun a ha => (a1 a ha).up e, fun a ha k => ?_, fun a ha k hk => ?_, fun a ha k b hb => ?_, fun a ha b hb hk hu => ?_, fun a ha b hb hk hu hqq hcc => ?_⟩
    · rcases spl a ha with w | w | w
      · rw [lb a w, (g.2.2.2 a w k).1]; exact a2 a w k
      · subst w
        have l0 : labN σ' gr a = 0 := labO ⟨ha, kq⟩ (by decide)
        rw [l0, hI k]
        by_cases z3 : k = 3
        · subst z3; exact (show (-1 : Int) ≤ -1 ∧ (-1 : Int) ≤ (nu 1 : Int) - 1 from ⟨by omega, by omega⟩)
        · by_cases z4 : k = 4
          · subst z4; exact (show (-1 : Int) ≤ -1 ∧ (-1 : Int) ≤ (nu 2 : Int) - 1 from ⟨by omega, by omega⟩)
          · rw [if_neg z3, if_neg z4]
            have : lbLo 0 k = -2147483648 ∧ lbHi nu 0 k = 2147483647 := by
              constructor
              · simp [lbLo, z3, z4]
              · simp [lbHi, z3, z4]
            rw [this.1, this.2]; omega
      · subst w
        have l0 : labN σ' gr a = 101 := labO ⟨ha, k4⟩ (by decide)
        rw [l0, hI4]; exact (show (-2147483648 : Int) ≤ 0 ∧ (0 : Int) ≤ 2147483647 by omega)
    · rcases spl a ha with w | w | w
      · rw [(e a w).2.1, (e a w).2.2] at hk; rw [(g.2.2.2 a w k).2.1]; exact a3 a w k hk
      · subst w; rw [kq] at hk
        have : k = 0 := by simpa [lbN] using hk
        subst this; rw [hP]; simp
      · subst w; rw [k4] at hk; exact absurd hk (by simp [lbN])
    · rcases spl a ha with w | w | w
      · rw [(g.2.2.2 a w k).2.1] at hb; rw [(e a w).2.1]
        have old := a4 a w k b hb
        by_cases z : lbX (gk σ a) k = true
        · rw [(e b (old.2 z).1).2.2]; exact ⟨old.1, fun _ => (old.2 z).up e⟩
        · refine ⟨?_, fun q => absurd q z⟩
          exact lbT_off (by revert z; cases lbX (gk σ a) k <;> simp)
      · subst w; rw [kq]
        by_cases z : k = 0
        · subst z; rw [hP] at hb; cases hb; rw [n4]; exact ⟨(show (8 : Nat) = 8 ∧ gr q4 = 0 from ⟨rfl, Classical.byContradiction (fun w => g.new (by simp) (a1 q4 w).1)⟩), fun _ => ⟨by rw [g.1]; exact List.mem_append_right _ (by simp), k4⟩⟩
        · rw [hPq k z] at hb; cases hb
      · subst w; rw [hP4] at hb; cases hb
    · rcases spl a ha with w | w | w
      · rcases spl b hb with v | v | v
        · rw [(e a w).2.1, (e b v).2.1] at hk; rw [(e a w).2.1] at hu; exact a5 a w b v hk hu
        · subst v; rw [kq] at hk; rw [hk] at hu; exact absurd hu (by decide)
        · subst v; rw [k4] at hk; rw [hk] at hu; exact absurd hu (by decide)
      · subst w; rw [kq] at hu; exact absurd hu (by decide)
      · subst w; rw [k4] at hu; exact absurd hu (by decide)
    · rcases spl a ha with w | w | w
      · rcases spl b hb with v | v | v
        · rw [(e a w).2.1, (e b v).2.1] at hk; rw [(e a w).2.1] at hu hcc; exact a6 a w b v hk hu hqq hcc
        · subst v; rw [kq] at hk; rw [hk] at hu; exact absurd hu (by decide)
        · subst v; rw [k4] at hk; rw [hk] at hu; exact absurd hu (by decide)
      · subst w; rw [kq] at hu; exact absurd hu (by decide)
      · subst w; rw [k4] at hu; exact absurd hu (by decide)
  · obtain ⟨a1, a2, a3, a4, a5, a6, a7, a8⟩ := i4
    refine ⟨g.2.1, a2, fun g9 hg9 => ?_, fun x hx w => a4 x (g.old (fun y hy => by rcases kE y hy with v | v <;> rw [v] <;> decide) hx) w, ?_, fun x hx hL => ?_, fun x hx w d hd => ?_, ?_⟩
    · rw [ns_gw i8 g hq g9, ← a3 g9 hg9]; exact hN g9 (by simp only [List.mem_cons, List.mem_nil_iff, or_false, not_or]; omega)
    · rw [cnt_gw g hq]
      have : [q, q4].countP (fun x => decide (gk σ' x = 1 ∧ gq x = 50)) = 0 := by simp [kq, k4]
      omega
    · have hx := g.old (fun y hy => by rcases kE y hy with v | v <;> rw [v] <;> decide) hx
      exact PlC.gw (a6 x hx hL) g hq hx.1 (fun y hy => by rcases kE y hy with v | v <;> rw [v] <;> decide)
    · have hx := g.old (fun y hy => by rcases kE y hy with v | v <;> rw [v] <;> decide) hx
      rw [(g.2.2.2 d (i8.2.2.1 x d hd).2.1 3).1]; exact a7 x hx w d hd
    · rw [nt_gw i8 g, hN1, hN2]; omega
  · refine i6.gw i1 g hq (fun x hx => by rcases kE x hx with w | w <;> rw [w] <;> decide) (fun J hJ m hm => i1.mem hJ rfl hm) ?_ ?_ (by omega) (fun _ _ => rfl)
    · have := i6.1; rw [hc, hN2]; omega
    · have := i6.2.1; rw [hs, hN2]; omega
  · have j := i7.2.gw g (fun a ha => (i1.1 a ha).1) (fun x hx w => by
      rcases mE x hx with v | v
      · rw [v]; exact hJ
      · rw [v, k4] at w; cases w) (fun x hx w => by rcases kE x hx with v | v <;> rw [v] at w <;> cases w) (fun x hx w => by rcases kE x hx with v | v <;> rw [v] at w <;> cases w)
    unfold SJ at j ⊢; rw [N11 3 (by omega)]; exact j
  · rcases mE x hx with v | v
    · subst v; exact ⟨q4, hP, ⟨by rw [g.1]; exact List.mem_append_right _ (by simp), k4⟩, n4⟩
    · subst v; rw [k4] at w; cases w
end FRE

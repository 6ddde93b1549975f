section NST
variable {σ : Sg} {gq ci gr nc N nu : Nat → Nat} {ot : Nat → Nat → Int} {LL : Nat → List Nat} {pl th : Nat}
def NSL : List Nat := [513, 514, 6464]
theorem ns_fin {Q : Sg → Int → Prop} {X : Sg → String → Prop} {s : Int} (i : IV σ pl gq ci gr nc ot LL N nu) (kth : kO σ th 8) (hs : gI σ th 1 = s) (h0 : 0 ≤ s) (h1 : s + 1 ≤ (nu 2 : Int)) (hQ : ∀ σ', IV σ' pl gq ci gr nc ot LL N nu → Sk [513, 6464] gr σ σ' → Q σ' s) : w_X8_newSet_54 th Q X σ (s * 4) := by
  have n2 := i.nu2
  have loop : ∀ (n : Nat) (σ1 : Sg) (v : Int), IV σ1 pl gq ci gr nc ot LL N nu → Sk [513, 6464] gr σ σ1 → gI σ1 th 1 = s → 0 ≤ v → (4 - v).toNat < n → wl_X8_newSet_56 th Q X n σ1 (s * 4) v := by
    intro n
    induction n with
    | zero => intro _ _ _ _ _ _ h; omega
    | succ n ih =>
      intro σ1 v i1 s1 e1 hv hm
      have k1 : kO σ1 th 8 := s1.ko.mpr kth
      unfold wl_X8_newSet_56 w_X8_newSet_56
      by_cases c : v ≥ 4
      · rw [if_pos c]
        unfold w_X8_newSet_76
        refine ⟨by rw [e1]; unfold rng; omega, ?_⟩
        intro σ16 e16
        have e2 : gI σ16 th 1 = s + 1 := by rw [e16, gI_pI, up2_s, e1]
        refine ⟨by rw [e2]; unfold rng; omega, ?_⟩
        have e3 : gI σ16 th 1 - 1 = s := by omega
        rw [e3]
        refine hQ σ16 (by rw [e16]; exact i1.wO k1 (by decide) (show (0 : Int) ≤ gI σ1 th 1 + 1 ∧ gI σ1 th 1 + 1 ≤ (nu 2 : Int) from ⟨by omega, by omega⟩)) ?_
        have s2 : Sk [513, 6464] gr σ1 σ16 := by rw [e16]; exact Sk.pI (by rw [fcdO k1 (by decide)]; decide)
        exact ⟨s2.1.trans s1.1, s2.2.1.trans s1.2.1, s2.2.2.1.trans s1.2.2.1, fun a ha k hk => (s1.2.2.2 a ha k hk).tr (s2.2.2.2 a (by rw [s1.1]; exact ha) k (by rw [fcdE s1.ext ha]; exact hk))⟩
      · rw [if_neg c]
        unfold w_X8_newSet_61
        obtain ⟨w, ew, fw⟩ := P_8_2 i1.1 k1
        refine ⟨by unfold rng; omega, w, ew, fun kw => ⟨⟨by omega, by omega⟩, ?_⟩⟩
        intro σ15 e15
        refine ⟨by unfold rng; omega, ?_⟩
        have s2 : Sk [513, 6464] gr σ1 σ15 := by rw [e15]; exact Sk.pJ (by rw [fcdA kw (by decide)]; decide)
        refine ih σ15 (v + 1) (by rw [e15]; exact i1.wL kw (by omega)) ⟨s2.1.trans s1.1, s2.2.1.trans s1.2.1, s2.2.2.1.trans s1.2.2.1, fun a ha k hk => (s1.2.2.2 a ha k hk).tr (s2.2.2.2 a (by rw [s1.1]; exact ha) k (by rw [fcdE s1.ext ha]; exact hk))⟩ (by rw [e15]; exact e1) (by omega) (by omega)
  unfold w_X8_newSet_54
  exact ⟨5, loop 5 σ 0 i ⟨rfl, rfl, rfl, fun _ _ _ _ => Sm.rf⟩ hs (by omega) (by omega)⟩
theorem i_newSet (iσ : IV σ pl gq ci gr nc ot LL N nu) (kth : kO σ th 8) (h5 : nu 5 < 24000) {Q : Sg → Int → Prop} {X : Sg → String → Prop} (hQ : ∀ (σ' : Sg) (LL' : Nat → List Nat) (N' nu' : Nat → Nat) (r : Int), IV σ' pl gq ci gr nc ot LL' N' nu' → Fx NSL gr σ σ' → NU nu nu' → Hn (gD σ) [] [] gq LL LL' N N' → (LL' = LL ∧ N' = N ∧ 0 ≤ r ∧ r < (nu' 2 : Int)) → Q σ' r) (hX : ∀ (σ' : Sg) (LL' : Nat → List Nat) (N' nu' : Nat → Nat) (E : String), IV σ' pl gq ci gr nc ot LL' N' nu' → Fx NSL gr σ σ' → NX nu nu' → (N' = N ∧ E = "java/lang/IllegalStateException") → X σ' E) : wp_X8_newSet th σ Q X := by
  have q1 := I_8_1 iσ.1 kth
  have n2 := iσ.nu2
  obtain ⟨w, ew, fw⟩ := P_8_2 iσ.1 kth
  have one : ∀ p, kO σ p 8 → p = th := fun p hp => iσ.un hp kth rfl
  unfold wp_X8_newSet w_X8_newSet_0
  by_cases c : gI σ th 1 < 30000
  · rw [if_pos c]
    unfold w_X8_newSet_18
    refine ⟨by unfold rng; omega, by unfold rng; omega, w, ew, fun kw => ?_⟩
    have nuE : ∀ m, nu 2 ≤ m → NU nu (up1 nu 2 m) := fun m hm => ⟨fun k q => up1_n _ _ (fun w => q (by rw [w]; decide)), by rw [up1_s]; exact hm⟩
    by_cases c2 : gI σ th 1 * 4 + 4 ≤ (gn σ w : Int)
    · rw [if_pos c2]
      by_cases c3 : gI σ th 1 + 1 ≤ (nu 2 : Int)
      · exact ns_fin iσ kth rfl q1.1 c3 (fun σ' i s => hQ σ' LL N nu _ i (s.fx.mo (by decide)) NU.rf Hn.rf ⟨rfl, rfl, q1.1, by omega⟩)
      · have i2 := iσ.cap (m := (gI σ th 1).toNat + 1) (by omega) (fun p hp w' hw' => by rw [one p hp, ew] at hw'; cases hw'; omega)
        exact ns_fin i2 kth rfl q1.1 (by rw [up1_s]; omega) (fun σ' i s => hQ σ' LL N _ _ i (s.fx.mo (by decide)) (nuE _ (by omega)) Hn.rf ⟨rfl, rfl, q1.1, by rw [up1_s]; omega⟩)
    · rw [if_neg c2]
      unfold w_X8_newSet_36
      refine ⟨w, ew, fun _ => ⟨by unfold rng; omega, ?_⟩⟩
      rw [ew]
      unfold wpC_J7_copyOf_c38d5 wC_J7_copyOf_c38d5_0
      refine ⟨w, rfl, fun _ => ?_⟩
      rw [if_pos (by omega)]
      unfold wC_J7_copyOf_c38d5_14
      have su := iσ.2.2.2.2.2.1
      have b0 := iσ.2.1.1
      have b10 := iσ.2.1.2.2.2.2.2.1.1
      have u1 := su.1; have u2 := su.2.1; have u3 := su.2.2.1
      have u4 := su.2.2.2.1 th kth w ew
      unfold KC at u1; unfold KS at u2
      refine ⟨by omega, (show gc σ + 1 ≤ 590000 ∧ gs σ + (2 * (gn σ w : Int)).toNat ≤ 7000000 by omega), ?_⟩
      intro q hq σ10 e10
      have hn10 : ∀ a, a ≠ q → gn σ10 a = gn σ a := fun a z => by rw [e10]; exact va_up_ne _ _ z
      have wq : w ≠ q := fun z => hq (z ▸ kw.1)
      refine ⟨w, rfl, fun kw10 => ?_⟩
      refine i_J9_min_b (fun r hr => ?_)
      intro x12
      rw [hn10 w wq] at hr
      have nq : gn σ10 q = (2 * (gn σ w : Int)).toNat := by rw [e10]; exact va_up_self _ _ _
      refine ⟨⟨⟨by omega, by omega, by omega⟩, by rw [hn10 w wq]; omega, by rw [nq]; omega⟩, ?_⟩
      intro σ14 e14 x14 ty14 σ13 e13
      -- the new world
      have ne : ∀ a ∈ gD σ, a ≠ q := fun a ha z => hq (z ▸ ha)
      have hD : gD σ14 = gD σ ++ [q] := by rw [e14, e10]; rfl
      have hK : gk σ14 = va_up (gk σ) q 101 := by rw [e14, e10]; rfl
      have hN : gn σ14 = va_up (gn σ) q (2 * (gn σ w : Int)).toNat := by rw [e14, e10]; rfl
      have hI : ∀ a k, gI σ14 a k = if a = q then 0 else gI σ a k := fun a k => by rw [e14, e10]; rfl
      have hP : ∀ a k, gP σ14 a k = if a = q then none else gP σ a k := fun a k => by rw [e14, e10]; rfl
      have hJ : ∀ a k, a ≠ q → gJ σ14 a k = gJ σ a k := fun a k z => by
        rw [e14]
        show (if a = q ∧ _ ∧ _ then _ else gJ σ10 a k) = _
        rw [if_neg (fun y => z y.1), e10]
        show (if a = q then 0 else gJ σ a k) = _
        rw [if_neg z]
      have nd : (gD σ14).Nodup := by
        rw [hD]
        exact List.nodup_append.mpr ⟨iσ.nd, by simp, fun x hx y hy z => ne x hx (z.trans (List.mem_singleton.mp hy))⟩
      have ext : Ext σ σ14 := fun a ha => ⟨by rw [hD]; exact List.mem_append_left _ ha, by rw [hK, va_up_ne _ _ (ne a ha)], by rw [hN, va_up_ne _ _ (ne a ha)]⟩
      have gw : Gw [q] σ σ14 := ⟨hD, nd, ext, fun a ha k => ⟨by rw [hI, if_neg (ne a ha)], by rw [hP, if_neg (ne a ha)], hJ a k (ne a ha)⟩⟩
      have kq : kO σ14 q 101 := ⟨by rw [hD]; exact List.mem_append_right _ (by simp), by rw [hK, va_up_self]⟩
      have hR : RG σ14 := fun a k => by
        rw [hI]; split
        · unfold rng; omega
        · exact iσ.2.2.2.2.2.2.1.1 a k
      have j1 := iσ.iw.gwA gw (Or.inr kq.2) (fun k => by rw [hP, if_pos rfl]) hR
      have kth14 := kth.up ext
      have nq14 : gn σ14 q = (2 * (gn σ w : Int)).toNat := by rw [hN, va_up_self]
      have g0 : gr q = 0 := Classical.byContradiction (fun w => hq (iσ.1.1 q w).1)
      have j2 : IW σ13 pl gq ci gr nc ot LL N nu := by
        rw [e13]
        exact j1.wP kth14 ⟨by decide, by decide⟩ (by simp) (fun b hb => by cases hb; exact (show 4 * nu 2 ≤ gn σ14 q ∧ 256 ≤ gn σ14 q ∧ gn σ14 q ≤ 240100 ∧ gr q = 0 by rw [nq14]; omega)) (fun b hb => by cases hb; exact kq)
      -- with more room for it
      have U : ∀ k, k ≠ 12 → up1 nu 12 (2 * gn σ w) k = nu k := fun k z => up1_n _ _ z
      have U12 : up1 nu 12 (2 * gn σ w) 12 = 2 * gn σ w := up1_s _ _ _
      have P13 : ∀ a k, ¬ (a = th ∧ k = 2) → gP σ13 a k = gP σ14 a k := fun a k z => by rw [e13, gP_pP]; exact up2_n _ _ z
      have i13 : IV σ13 pl gq ci gr nc ot LL N (up1 nu 12 (2 * gn σ w)) := by
        have lh : ∀ l k, lbHi (up1 nu 12 (2 * gn σ w)) l k = lbHi nu l k := fun l k => by unfold lbHi; rw [U 0 (by decide), U 1 (by decide), U 2 (by decide)]
        have lt : ∀ l qa ca k qb cb nb rb, lbT (up1 nu 12 (2 * gn σ w)) l qa ca k qb cb nb rb = lbT nu l qa ca k qb cb nb rb := fun l qa ca k qb cb nb rb => by unfold lbT; rw [U 2 (by decide)]
        obtain ⟨k1, k2, k3, k4, k5, k6⟩ := j2
        refine ⟨?_, ?_, k3, ?_, k5, ?_, k6⟩
        · obtain ⟨a1, a2, a3, a4, a5⟩ := k1
          exact ⟨a1, fun a ha k => by rw [lh]; exact a2 a ha k, a3, fun a ha k b e => by rw [lt]; exact a4 a ha k b e, a5⟩
        · unfold SB at k2 ⊢; rw [U 0 (by decide), U 1 (by decide), U 10 (by decide), U 15 (by decide), U 16 (by decide), U 17 (by decide)]; exact k2
        · unfold SS at k4 ⊢; rw [U 10 (by decide), U 16 (by decide)]; exact k4
        · have hgc : gc σ13 = gc σ + 1 := by rw [e13, e14, e10]; rfl
          have hgs : gs σ13 = gs σ + (2 * (gn σ w : Int)).toNat := by rw [e13, e14, e10]; rfl
          have kO13 : ∀ a l, kO σ13 a l ↔ kO σ14 a l := fun a l => by rw [e13]; exact Iff.rfl
          have gn13 : gn σ13 = gn σ14 := by rw [e13]
          have gI13 : gI σ13 = gI σ14 := by rw [e13]
          obtain ⟨a1, a2, a3, a4, a5, a6⟩ := su
          unfold SU
          rw [U 0 (by decide), U 5 (by decide), U 8 (by decide), U 9 (by decide), U 10 (by decide), U 13 (by decide), U 14 (by decide), U12, hgc, hgs]
          refine ⟨by unfold KC; omega, by unfold KS; omega, by omega, fun p hp w' hw' => ?_, fun J hJ9 c9 hc9 => ?_, fun t ht => ?_⟩
          · have hp := (kO13 p 8).mp hp
            have hp0 : p = th := j1.1.2.2.2.2.1 p hp.1 th kth14.1 (by rw [hp.2, kth14.2]) (by rw [hp.2]; rfl)
            rw [hp0, e13, gP_pP, up2_s] at hw'
            cases hw'
            rw [gn13, nq14]; omega
          · have hJ0 : kO σ J 4 := gw.old (fun x hx => by rw [List.mem_singleton.mp hx, kq.2]; decide) ((kO13 J 4).mp hJ9)
            have jt : J ≠ th := hJ0.ne kth (by decide)
            rw [P13 J 5 (fun z => jt z.1), hP, if_neg (ne J hJ0.1)] at hc9
            obtain ⟨z1, z2, z3, z4⟩ := a5 J hJ0 c9 hc9
            have ec := (ext c9 (iσ.1.mem hJ0 rfl hc9)).2.2
            rw [gn13, ec, gI13, hI, if_neg (ne J hJ0.1)]
            refine ⟨z1, z2, fun m hm => ?_, z4⟩
            rw [P13 J 6 (fun z => jt z.1), hP, if_neg (ne J hJ0.1)] at hm
            rw [(ext m (iσ.1.mem hJ0 rfl hm)).2.2]; exact z3 m hm
          · have ht0 : kO σ t 120 := gw.old (fun x hx => by rw [List.mem_singleton.mp hx, kq.2]; decide) ((kO13 t 120).mp ht)
            have tt : t ≠ th := ht0.ne kth (by decide)
            have e : (fun i => (gP σ13 t i).isSome) = (fun i => (gP σ t i).isSome) := by
              funext i; rw [P13 t i (fun z => tt z.1), hP, if_neg (ne t ht0.1)]
            rw [e]; exact a6 t ht0
      have k13 : kO σ13 th 8 := by rw [e13]; exact kth14
      have w13 : gP σ13 th 2 = some q := by rw [e13, gP_pP, up2_s]
      have g13 : gn σ13 q = (2 * (gn σ w : Int)).toNat := by rw [e13]; exact nq14
      have s13 : gI σ13 th 1 = gI σ th 1 := by rw [e13]; show gI σ14 th 1 = _; rw [hI, if_neg (ne th kth.1)]
      have fx13 : Fx NSL gr σ σ13 := ⟨by rw [e13]; exact ext, fun a ha k hk => ⟨by rw [e13]; exact (gw.2.2.2 a ha k).1, by
        by_cases z : a = th ∧ k = 2
        · exact absurd (show fcd σ gr a k ∈ NSL by rw [z.1, z.2, fcdO kth (by decide)]; decide) hk
        · rw [P13 a k z]; exact (gw.2.2.2 a ha k).2.1, by rw [e13]; exact (gw.2.2.2 a ha k).2.2⟩⟩
      have i3 := i13.cap (m := (gI σ th 1).toNat + 1) (by rw [U 2 (by decide)]; omega) (fun p hp w' hw' => by
        have : p = th := i13.un hp k13 rfl
        rw [this, w13] at hw'; cases hw'; rw [g13]; omega)
      refine ns_fin i3 k13 s13 q1.1 (by rw [up1_s]; omega) (fun σ' i s => hQ σ' LL N _ _ i (fx13.tr (s.fx.mo (by decide))) ⟨fun k z => by rw [up1_n _ _ (fun w => z (by rw [w]; decide)), up1_n _ _ (fun w => z (by rw [w]; decide))], by rw [up1_s]; omega⟩ Hn.rf ⟨rfl, rfl, q1.1, by rw [up1_s]; omega⟩)
  · rw [if_neg c]
    unfold w_X8_newSet_10
    exact ⟨iσ.room, hX _ _ _ _ _ (iσ.bump h5) Fx.bump NX.bump ⟨rfl, rfl⟩⟩
theorem i_X8_newSet (iσ : IV σ pl gq ci gr nc ot LL N nu) (kth : kO σ th 8) (h5 : nu 5 < 24000) {Q : Sg → Int → Prop} {X : Sg → String → Prop} (hQ : ∀ (σ' : Sg) (nu' : Nat → Nat) (r : Int), IV σ' pl gq ci gr nc ot LL N nu' → Fx NSL gr σ σ' → NU nu nu' → (0 ≤ r ∧ r < (nu' 2 : Int)) → Q σ' r) (hX : ∀ (σ' : Sg) (LL' : Nat → List Nat) (N' nu' : Nat → Nat) (E : String), IV σ' pl gq ci gr nc ot LL' N' nu' → Fx NSL gr σ σ' → NX nu nu' → ((N' 1 ≤ N 1 ∧ N' 5 = N 5 ∧ N' 3 = N 3 ∧ N' 14 = N 14 ∧ N' 44 = N 44 ∧ N' 74 = N 74) ∧ NZ N N' ∧ E = "java/lang/IllegalStateException") → X σ' E) : wp_X8_newSet th σ Q X :=
  i_newSet iσ kth h5 (fun σ' LL' N' nu' r i f u _ p => by
    obtain ⟨e1, e2, e3⟩ := p
    subst e1; subst e2
    exact hQ σ' nu' r i f u e3) (fun σ' LL' N' nu' E i f u p => hX σ' LL' N' nu' E i f u ⟨by rw [p.1]; exact ⟨Nat.le_refl _, rfl, rfl, rfl, rfl, rfl⟩, by rw [p.1]; exact NZ.rf, p.2⟩)
end NST

section FRF
variable {σ σ' : Sg} {gq ci gr nc N N' nu : Nat → Nat} {ot : Nat → Nat → Int} {LL : Nat → List Nat} {pl th c : Nat}
def FRL : List Nat := [1, 2, 3, 4, 5, 6, 7, 64, 512]
/-- what fresh says of its cell -/
def FrP (pl : Nat) (σ σ' : Sg) (LL LL' : Nat → List Nat) (N N' : Nat → Nat) (c : Nat) : Prop :=
  kO σ' c 0 ∧ (∀ x, c ∉ LL' x) ∧ (∀ d, kO σ d 0 → (∀ x, d ∉ LL x) → d ≠ c ∧ ∀ x, d ∉ LL' x) ∧ (∀ x, x ≠ pl → LL' x = LL x) ∧ NF [0, 1, 2] N N' ∧ N' 1 = N 1 + 1 ∧ (∀ x, x ≠ pl → c ∉ LL x) ∧ (c ∉ gD σ ∨ ∃ y, c ∈ LL y)
theorem fr_wr {a : Nat} (hI : IV σ pl gq ci gr nc ot LL N nu) (hc : kO σ c 0) (hf : ∀ x, c ∉ LL x) {Q : Sg → Option Nat → Prop} {X : Sg → String → Prop} (e1 : gP σ c 1 = none)
    (hQ : ∀ σ', IV σ' pl gq ci gr nc ot LL N nu → Sk [2, 3, 4, 5, 6, 7] gr σ σ' → Q σ' (some c)) :
    ∀ σ19, σ19 = pI σ c 2 0 → ∀ σ20, σ20 = pI σ19 c 3 (-1) → ∀ σ21, σ21 = pI σ20 c 4 (-1) → ∀ σ22, σ22 = pJ σ21 c 5 0 → ∀ σ23, σ23 = pJ σ22 c 6 0 → ∀ σ24, σ24 = pJ σ23 c 7 0 → Q σ24 (some c) := by
  intro σ19 e19 σ20 e20 σ21 e21 σ22 e22 σ23 e23 σ24 e24
  have i19 : IV σ19 pl gq ci gr nc ot LL N nu := by rw [e19]; exact hI.wO hc (by decide) (rngb (by unfold rng; omega))
  have k19 : kO σ19 c 0 := by rw [e19]; exact hc
  have i20 : IV σ20 pl gq ci gr nc ot LL N nu := by rw [e20]; exact i19.goal k19 hf ⟨by omega, by omega⟩
  have k20 : kO σ20 c 0 := by rw [e20]; exact k19
  have i21 : IV σ21 pl gq ci gr nc ot LL N nu := by rw [e21]; exact i20.wO k20 (by decide) (show (-1 : Int) ≤ -1 ∧ (-1 : Int) ≤ (nu 2 : Int) - 1 from ⟨by omega, by omega⟩)
  have z0 : tb (N 3) 0 := by unfold tb; have : (0 : Int64).toInt = 0 := rfl; omega
  have i24 : IV σ24 pl gq ci gr nc ot LL N nu := by rw [e24, e23, e22]; exact ((i21.wT (by rw [e21]; exact k20) (Or.inl ⟨rfl, Or.inl rfl⟩) z0).wT (by rw [e21]; exact k20) (Or.inl ⟨rfl, Or.inr rfl⟩) z0).wJ (by rw [e21]; exact k20) (by decide)
  refine hQ σ24 i24 ?_
  subst e19 e20 e21 e22 e23 e24
  refine ⟨rfl, rfl, rfl, fun b hb k hk => ⟨?_, rfl, ?_⟩⟩
  · have nb : ∀ j, j ∈ [2, 3, 4, 5, 6, 7] → ¬ (b = c ∧ k = j) := fun j hj q => hk (by rw [q.1, q.2, fcdO hc ⟨by decide, by decide, by simp only [List.mem_cons, List.mem_nil_iff, or_false] at hj; omega⟩]; simpa using hj)
    show up2 _ c 4 (-1) b k = _
    rw [up2_n _ _ (nb 4 (by decide)), gI_pI, up2_n _ _ (nb 3 (by decide)), gI_pI, up2_n _ _ (nb 2 (by decide))]
  · have nb : ∀ j, j ∈ [2, 3, 4, 5, 6, 7] → ¬ (b = c ∧ k = j) := fun j hj q => hk (by rw [q.1, q.2, fcdO hc ⟨by decide, by decide, by simp only [List.mem_cons, List.mem_nil_iff, or_false] at hj; omega⟩]; simpa using hj)
    show up2 _ c 7 0 b k = _
    rw [up2_n _ _ (nb 7 (by decide)), gJ_pJ, up2_n _ _ (nb 6 (by decide)), gJ_pJ, up2_n _ _ (nb 5 (by decide))]
theorem i_fresh (h : IV σ pl gq ci gr nc ot LL N nu) (kth : kO σ th 8) (hb : N 14 + N 44 + N 74 + N 1 ≤ 41000) {Q : Sg → Option Nat → Prop} {X : Sg → String → Prop} (hQ : ∀ (σ' : Sg) (LL' : Nat → List Nat) (N' nu' : Nat → Nat) (c : Nat), IV σ' pl gq ci gr nc ot LL' N' nu' → Fx FRL gr σ σ' → NU nu nu' → FrP pl σ σ' LL LL' N N' c → Q σ' (some c)) : wp_X8_fresh th σ Q X := by
  have := h.pool kth; subst this
  obtain ⟨own, hp⟩ := h.hp
  obtain ⟨a1, ⟨a2, a3⟩, a4, a5, a6, a7⟩ := id hp
  have ss := h.ss
  have tot := h.tot
  have n2 := h.n2
  unfold wp_X8_fresh w_X8_fresh_0
  cases eL : LL th with
  | cons c T =>
    rw [eL] at a3
    have e0 : gP σ th 0 = some c := a3.1
    have cin : c ∈ LL th := by rw [eL]; exact List.mem_cons_self
    have kc : kO σ c 0 := (a4 th c cin).2
    have nd := a5 th; rw [eL] at nd
    obtain ⟨nd1, nd2⟩ := List.nodup_cons.mp nd
    have thc : th ≠ c := kth.ne kc (by decide)
    rw [if_pos (by rw [e0]; simp), e0]
    unfold w_X8_fresh_20
    refine ⟨c, rfl, fun _ => ?_⟩
    intro σ26 e26
    unfold w_X8_fresh_28
    refine ⟨c, rfl, fun _ => ?_⟩
    intro σ18 e18
    have hP : ∀ a k, gP σ18 a k = if a = c ∧ k = 1 then none else if a = th ∧ k = 0 then gP σ c 1 else gP σ a k := fun a k => by rw [e18, gP_pP, e26, gP_pP]; rfl
    have hD : σ18.1 = σ.1 := by rw [e18, e26]
    have hK : gk σ18 = gk σ := by rw [e18, e26]
    have hn : gn σ18 = gn σ := by rw [e18, e26]
    have hI : gI σ18 = gI σ := by rw [e18, e26]
    have hJ : gJ σ18 = gJ σ := by rw [e18, e26]
    have oth : ∀ a k, ¬ (a = c ∧ k = 1) → ¬ (a = th ∧ k = 0) → gP σ18 a k = gP σ a k := fun a k q1 q2 => by rw [hP, if_neg q1, if_neg q2]
    have hp' : HP σ18 th (up1 (up1 LL th T) th T) own := by
      refine hp.mk2 hD hK hn (fun x q1 _ d hd => ?_) (fun ch q1 _ hch => ?_) (fun q _ => absurd rfl q) (fun q => absurd rfl (q.ne kth (by decide))) (fun q => absurd rfl (q.ne kth (by decide))) (fun _ q => absurd rfl q) (fun _ => ?_) (fun d hd => ?_) (fun d hd => ?_) (fun x q1 _ d hd => (a4 x d hd).1) nd2 nd2 (Or.inl rfl) (Or.inl rfl) (fun d hd => ?_)
      · exact oth d 1 (fun q => q1 ((a4 x d hd).1.symm.trans (by rw [q.1]; exact (a4 th c cin).1))) (fun q => absurd q.2 (by decide))
      · have u1 : ch ≠ c := hch.ne kc (by decide)
        exact ⟨oth ch 0 (fun q => u1 q.1) (fun q => q1 q.1), oth ch 1 (fun q => u1 q.1) (fun q => q1 q.1), by rw [hI]⟩
      · rw [hP, if_neg (fun q => thc q.1), if_pos ⟨rfl, rfl⟩]
        exact lk_congr (fun x hx => oth x 1 (fun q => nd1 (q.1 ▸ hx)) (fun q => absurd q.2 (by decide))) a3.2
      · exact a4 th d (by rw [eL]; exact List.mem_cons_of_mem _ hd)
      · exact a4 th d (by rw [eL]; exact List.mem_cons_of_mem _ hd)
      · exact oth d 0 (fun q => absurd q.2 (by decide)) (fun q => (kth.ne hd (by decide)) q.1.symm)
    have eq9 : up1 (up1 LL th T) th T = up1 LL th T := by funext x; unfold up1; split <;> rfl
    rw [eq9] at hp'
    have fr : FrH th σ σ18 := ⟨hD, hK, hn, fun a k _ _ => by rw [hI], fun a k _ => by rw [hJ], fun a k q1 q2 q3 => oth a k (fun q => q1 ⟨q.1 ▸ kc, q.2⟩) q3⟩
    have hN : NF [0, 1, 2] N (up1 (up1 N 0 (N 0 - 1)) 1 (N 1 + 1)) := fun g hg => by
      simp only [List.mem_cons, List.mem_nil_iff, or_false, not_or] at hg
      rw [up1_n _ _ hg.2.1, up1_n _ _ hg.1]
    have e1 : up1 (up1 N 0 (N 0 - 1)) 1 (N 1 + 1) 0 = N 0 - 1 := by rw [up1_n _ _ (by omega), up1_s]
    have e2 : up1 (up1 N 0 (N 0 - 1)) 1 (N 1 + 1) 1 = N 1 + 1 := up1_s _ _ _
    have e3 : up1 (up1 N 0 (N 0 - 1)) 1 (N 1 + 1) 2 = N 2 := by rw [up1_n _ _ (by omega), up1_n _ _ (by omega)]
    have npl : ∀ x, kO σ x 1 → x ≠ th := fun x hx => hx.ne kth (by decide)
    have le := h.le kth.1 (Or.inl ss.2.1)
    rw [ss.2.1, eL, List.length_cons] at le
    have iv := h.ch (N' := up1 (up1 N 0 (N 0 - 1)) 1 (N 1 + 1)) hp' fr (fun a k _ => by rw [hI]) hJ (by unfold RG; rw [hI]; exact h.2.2.2.2.2.2.1.1) (h.2.2.1.less (fun g hg => by rw [hN g (by simp only [List.mem_cons, List.mem_nil_iff, or_false, not_or]; omega)]; exact Nat.le_refl _) (hN 5 (by decide))) (fun g hg => by
      have e := ns_up (gq := gq) (LL := LL) (L := T) ss.1 kth.1 g
      rw [ss.2.1] at e
      by_cases q : g = 0
      · subst q
        rw [if_pos rfl, if_pos rfl, ← ss.2.2.1 _ hg, eL, List.length_cons] at e
        rw [e1]; omega
      · rw [if_neg (fun e => q e.symm), if_neg (fun e => q e.symm), ← ss.2.2.1 _ hg] at e
        rw [hN g (by simp only [List.mem_cons, List.mem_nil_iff, or_false, not_or]; omega)]; omega) (fun x hx hq => by rw [up1_n _ _ (npl x hx)]; exact ss.2.2.2.1 x hx hq) (fun x hx hL => by rw [up1_n _ _ (npl x hx)] at hL; exact ss.2.2.2.2.2.1 x hx hL) (fun x hx hq => by rw [up1_n _ _ (npl x hx)]; exact ss.2.2.2.2.2.2.1 x hx hq) e3 (hN 3 (by decide)) (by
      have e := nt_up (LL := LL) (L := T) ss.1 kth.1
      have := ss.2.2.2.2.2.2.2
      rw [eL, List.length_cons] at e
      rw [e3, e2]; omega)
    have kc18 : kO σ18 c 0 := kc.up iv.2.1
    have hand : ∀ x, c ∉ up1 LL th T x := fun x hx => by
      by_cases q : x = th
      · subst q; rw [up1_s] at hx; exact nd1 hx
      · rw [up1_n _ _ q] at hx; exact q ((a4 x c hx).1.symm.trans (a4 th c cin).1)
    refine fr_wr (a := 0) (X := X) iv.1 kc18 hand (by rw [hP, if_pos ⟨rfl, rfl⟩]) (fun σ24 i24 s24 => ?_)
    have fx : Fx FRL gr σ σ24 := Fx.tr (iv.2.mo (by decide)) (s24.fx.mo (by decide))
    refine hQ σ24 _ _ nu c i24 fx NU.rf ⟨kc.up fx.1, hand, fun d hd hf => ⟨fun q => hf th (q ▸ cin), fun x hx => ?_⟩, fun x q => up1_n _ _ q, hN, e2, fun x q hx => q ((a4 x c hx).1.symm.trans (a4 th c cin).1), Or.inr ⟨th, cin⟩⟩
    by_cases q : x = th
    · subst q; rw [up1_s] at hx; exact hf x (by rw [eL]; exact List.mem_cons_of_mem _ hx)
    · rw [up1_n _ _ q] at hx; exact hf x hx
  | nil =>
    rw [eL] at a3
    have e0 : gP σ th 0 = none := a3
    have n0 : N 0 = 0 := by
      rw [ss.2.2.1 0 (Or.inl rfl)]
      refine ns_zero (fun x hx hq => ?_)
      cases q : LL x with
      | nil => rfl
      | cons c T =>
        rcases a6 x (by rw [q]; simp) with w | w
        · rw [w, eL] at q; cases q
        · have := gl11 _ (ss.2.2.2.2.2.1 x w (by rw [q]; simp)).1
          have h9 : ∀ g ∈ GL, g ≠ 0 := by decide
          exact absurd hq (h9 _ (ss.2.2.2.2.2.1 x w (by rw [q]; simp)).1)
    have su := h.2.2.2.2.2.1
    have b0 := h.2.1.1
    have b10 := h.2.1.2.2.2.2.2.1.1
    have u1 := su.1; have u2 := su.2.1; have u3 := su.2.2.1
    unfold KC at u1; unfold KS at u2
    rw [if_neg (by rw [e0]; simp)]
    unfold w_X8_fresh_9
    refine ⟨(show gc σ + 1 ≤ 590000 ∧ gs σ + 8 ≤ 7000000 by omega), ?_⟩
    intro q hq σ15 e15
    unfold wp_X0_init w_X0_init_0
    refine ⟨by rw [e15]; exact (show gc σ + 1 + 1 ≤ 590000 ∧ gs σ + 8 + 8 ≤ 7000000 by omega), ?_⟩
    intro q4 hq4 σ5 e5 σ6 e6 x6
    unfold w_X8_fresh_28
    refine ⟨q, rfl, fun _ => ?_⟩
    intro σ18 e18 σ19 e19 σ20 e20 σ21 e21 σ22 e22 σ23 e23 σ24 e24
    have nq : q4 ≠ q := fun w => hq4 (by rw [e15, w]; exact List.mem_append_right _ (by simp))
    have nq4 : q4 ∉ gD σ := fun w => hq4 (by rw [e15]; exact List.mem_append_left _ w)
    have hD : gD σ24 = gD σ ++ [q, q4] := by rw [e24, e23, e22, e21, e20, e19, e18, e6, e5, e15]; exact List.append_assoc _ _ _
    have hI : ∀ a k, gI σ24 a k = if a = q then (if k = 3 then -1 else if k = 4 then -1 else 0) else if a = q4 then 0 else gI σ a k := fun a k => by
      rw [e24, e23, e22, e21, e20, e19, e18, e6, e5, e15]
      show up2 (up2 (up2 (fun b j => if b = q4 then 0 else if b = q then 0 else gI σ b j) q 2 0) q 3 (-1)) q 4 (-1) a k = _
      unfold up2
      by_cases w : a = q
      · subst w; simp only [true_and, if_true, fun e => nq.symm e]
        have : a ≠ q4 := fun e => nq e.symm
        split
        · rename_i v; subst v; simp
        · split
          · rename_i v; subst v; simp
          · split
            · rename_i v; subst v; simp
            · simp [this, *]
      · simp [w]
    have hP : ∀ a k, gP σ24 a k = if a = q then (if k = 0 then some q4 else none) else if a = q4 then none else gP σ a k := fun a k => by
      rw [e24, e23, e22, e21, e20, e19, e18, e6, e5, e15]
      show up2 (up2 (fun b j => if b = q4 then none else if b = q then none else gP σ b j) q 0 (some q4)) q 1 none a k = _
      unfold up2
      by_cases w : a = q
      · subst w
        have : a ≠ q4 := fun e => nq e.symm
        by_cases v0 : k = 0
        · subst v0; simp
        · by_cases v1 : k = 1
          · subst v1; simp
          · simp [v0, v1, this]
      · simp [w]
    have hJ : ∀ a k, a ≠ q → a ≠ q4 → gJ σ24 a k = gJ σ a k := fun a k w1 w2 => by
      rw [e24, e23, e22, e21, e20, e19, e18, e6, e5, e15]
      show up2 (up2 (up2 (fun b j => if b = q4 then 0 else if b = q then 0 else gJ σ b j) q 5 0) q 6 0) q 7 0 a k = _
      unfold up2
      simp [w1, w2]
    have hJq : ∀ k, k ∈ [5, 6] → gJ σ24 q k = 0 := fun k hk => by
      rw [e24, e23, e22, e21, e20, e19, e18, e6, e5, e15]
      show up2 (up2 (up2 (fun b j => if b = q4 then 0 else if b = q then 0 else gJ σ b j) q 5 0) q 6 0) q 7 0 q k = _
      unfold up2
      simp only [List.mem_cons, List.mem_nil_iff, or_false] at hk
      rcases hk with w | w <;> subst w <;> simp
    have hK : ∀ a, gk σ24 a = va_up (va_up (gk σ) q 0) q4 101 a := fun a => by rw [e24, e23, e22, e21, e20, e19, e18, e6, e5, e15]
    have hn : ∀ a, gn σ24 a = va_up (gn σ) q4 8 a := fun a => by rw [e24, e23, e22, e21, e20, e19, e18, e6, e5, e15]
    have ne : ∀ a ∈ gD σ, a ≠ q ∧ a ≠ q4 := fun a ha => ⟨fun w => hq (w ▸ ha), fun w => nq4 (w ▸ ha)⟩
    have kq : gk σ24 q = 0 := by rw [hK, va_up_ne _ _ (fun w => nq w.symm), va_up_self]
    have k4 : gk σ24 q4 = 101 := by rw [hK, va_up_self]
    have nd' : (gD σ24).Nodup := by
      rw [hD]
      refine List.nodup_append.mpr ⟨ss.1, by simp; exact fun w => nq w.symm, fun x hx y hy w => ?_⟩
      simp only [List.mem_cons, List.mem_nil_iff, or_false] at hy
      rcases hy with v | v
      · exact hq (by rw [← v, ← w]; exact hx)
      · exact nq4 (by rw [← v, ← w]; exact hx)
    have ext : Ext σ σ24 := fun a ha => ⟨by rw [hD]; exact List.mem_append_left _ ha, by rw [hK, va_up_ne _ _ (ne a ha).2, va_up_ne _ _ (ne a ha).1], by rw [hn, va_up_ne _ _ (ne a ha).2]⟩
    have gw : Gw [q, q4] σ σ24 := ⟨hD, nd', ext, fun a ha k => ⟨by rw [hI, if_neg (ne a ha).1, if_neg (ne a ha).2], by rw [hP, if_neg (ne a ha).1, if_neg (ne a ha).2], hJ a k (ne a ha).1 (ne a ha).2⟩⟩
    have hN : NF [1, 2] N (up1 (up1 N 1 (N 1 + 1)) 2 (N 2 + 1)) := fun g hg => by
      simp only [List.mem_cons, List.mem_nil_iff, or_false, not_or] at hg
      rw [up1_n _ _ hg.2, up1_n _ _ hg.1]
    have e1 : up1 (up1 N 1 (N 1 + 1)) 2 (N 2 + 1) 1 = N 1 + 1 := by rw [up1_n _ _ (by omega), up1_s]
    have e2 : up1 (up1 N 1 (N 1 + 1)) 2 (N 2 + 1) 2 = N 2 + 1 := up1_s _ _ _
    have iv := h.newCell (N' := up1 (up1 N 1 (N 1 + 1)) 2 (N 2 + 1)) gw kq k4 (by rw [hn, va_up_self]) (by rw [hP, if_pos rfl, if_pos rfl]) (fun k => by rw [hI, if_pos rfl]) (fun k => by rw [hI, if_neg nq, if_pos rfl]) (fun k w => by rw [hP, if_pos rfl, if_neg w]) (fun k => by rw [hP, if_neg nq, if_pos rfl]) (fun a k => by
      rw [hI]; split
      · split
        · unfold rng; omega
        · split <;> · unfold rng; omega
      · split
        · unfold rng; omega
        · exact h.2.2.2.2.2.2.1.1 a k) (by rw [e24, e23, e22, e21, e20, e19, e18, e6, e5, e15]) (by rw [e24, e23, e22, e21, e20, e19, e18, e6, e5, e15]) (fun a ha => by
      simp only [List.mem_cons, List.mem_nil_iff, or_false, not_or] at ha
      rw [hn, va_up_ne _ _ ha.2]) ⟨by rw [hJq 5 (by decide)], by rw [hJq 6 (by decide)]⟩ (by omega) hN e1 e2
    have inL : ∀ x, ∀ d ∈ LL x, d ∈ gD σ := fun x d hd => (a4 x d hd).2.1
    refine hQ σ24 LL _ nu q iv ⟨ext, fun a ha k _ => gw.2.2.2 a ha k⟩ NU.rf ⟨⟨by rw [hD]; exact List.mem_append_right _ (by simp), kq⟩, fun x hx => hq (inL x q hx), fun d hd hf => ⟨fun w => hq (w ▸ hd.1), hf⟩, fun _ _ => rfl, fun g hg => hN g (fun w => hg (List.mem_cons_of_mem _ w)), e1, fun x _ hx => hq (inL x q hx), Or.inl hq⟩
/-! what calls leave alone: chains of other groups, cells in hand but those of E, numbers of other groups -/
def Hn (D G E : List Nat) (gq : Nat → Nat) (LL LL' : Nat → List Nat) (N N' : Nat → Nat) : Prop := (∀ x ∈ D, gq x ∉ G → gq x ≠ 0 → LL' x = LL x) ∧ (∀ d ∈ D, d ∉ E → (∀ x, d ∉ LL x) → ∀ x, d ∉ LL' x) ∧ (∀ g, g ∉ G → g ≠ 0 → g ≠ 1 → g ≠ 2 → N' g = N g)
/-- of E, or nothing that was in hand -/
def Lo (E D : List Nat) (LL : Nat → List Nat) (c : Nat) : Prop := c ∈ E ∨ c ∉ D ∨ ∃ y, c ∈ LL y
theorem Hn.rf {D G E : List Nat} : Hn D G E gq LL LL N N := ⟨fun _ _ _ _ => rfl, fun _ _ _ h => h, fun _ _ _ _ _ => rfl⟩
theorem Hn.go {D G E D1 G2 F : List Nat} {LL1 LL2 : Nat → List Nat} {N1 N2 : Nat → Nat} (h : Hn D G E gq LL LL1 N N1) (h2 : Hn D1 G2 F gq LL1 LL2 N1 N2) (hD : ∀ d ∈ D, d ∈ D1) (hG : ∀ x ∈ G2, x ∈ G) (hF : ∀ d ∈ F, Lo E D LL d) : Hn D G E gq LL LL2 N N2 := by
  refine ⟨fun x hx q q0 => (h2.1 x (hD x hx) (fun w => q (hG _ w)) q0).trans (h.1 x hx q q0), fun d hd q hh => ?_, fun g q a b c => (h2.2.2 g (fun w => q (hG _ w)) a b c).trans (h.2.2 g q a b c)⟩
  refine h2.2.1 d (hD d hd) (fun w => ?_) (h.2.1 d hd q hh)
  rcases hF d w with v | v | ⟨y, v⟩
  · exact q v
  · exact v hd
  · exact hh y v
/-- the same, over labels that have grown -/
theorem Hn.ge {D G E : List Nat} {gq' : Nat → Nat} {LL1 : Nat → List Nat} {N1 : Nat → Nat} {D0 : List Nat} (h : Hn D G E gq' LL LL1 N N1) (hg : ∀ a ∈ D0, gq' a = gq a) (hs : ∀ a ∈ D0, a ∈ D) : Hn D0 G E gq LL LL1 N N1 := ⟨fun x hx q q0 => h.1 x (hs x hx) (by rw [hg x hx]; exact q) (by rw [hg x hx]; exact q0), fun d hd => h.2.1 d (hs d hd), h.2.2⟩
theorem Hn.loc {D G E D1 : List Nat} {LL1 : Nat → List Nat} {N1 : Nat → Nat} (h : Hn D G E gq LL LL1 N N1) (hD : ∀ d ∈ D, d ∈ D1) (hc : c ∉ D1 ∨ ∃ y, c ∈ LL1 y) : Lo E D LL c := by
  by_cases q : c ∈ E
  · exact Or.inl q
  · by_cases q1 : c ∈ D
    · by_cases q2 : ∃ y, c ∈ LL y
      · exact Or.inr (Or.inr q2)
      · rcases hc with w | ⟨y, w⟩
        · exact absurd (hD c q1) w
        · exact absurd w (h.2.1 c q1 q (fun x hx => q2 ⟨x, hx⟩) y)
    · exact Or.inr (Or.inl q1)
theorem gl12 : ∀ g ∈ GL, 11 ≤ g := by decide
/-! the chains' calls once more, as the program takes them -/
theorem plc_x (hq : gq c ∈ [14, 41, 42, 44, 60, 61, 62, 63, 64, 65, 66, 67, 68, 69, 70, 71, 74, 80, 81, 82, 83, 84, 85, 86, 87, 88, 89, 90, 91, 92, 93, 94, 95]) : PlC σ gq ci ot c := by
  have h9 : ∀ g ∈ [14, 41, 42, 44, 60, 61, 62, 63, 64, 65, 66, 67, 68, 69, 70, 71, 74, 80, 81, 82, 83, 84, 85, 86, 87, 88, 89, 90, 91, 92, 93, 94, 95], g ∈ GL ∧ g ≠ 11 ∧ g ≠ 12 ∧ g ≠ 13 ∧ g ≠ 50 ∧ g ≠ 21 ∧ g ≠ 22 ∧ g ≠ 31 ∧ g ≠ 32 := by decide
  obtain ⟨a0, a1, a2, a3, a4, a5, a6, a7, a8⟩ := h9 _ hq
  exact ⟨a0, fun w => by omega, fun w => by omega, fun w => by omega, fun w => by omega, fun w => by omega, fun w => by omega⟩
theorem plc_t {r : Nat} (h : IV σ pl gq ci gr nc ot LL N nu) (hr : kO σ r 9) (hq : gq c = 13) (hc : (ci c : Int) < gI σ r 10) : PlC σ gq ci ot c := by
  refine ⟨by rw [hq]; decide, fun _ r' hr' => by rw [h.un hr' hr rfl]; exact hc, fun w => by omega, fun w => by omega, fun w => by omega, fun w => by omega, fun w => by omega⟩
theorem plc_u {r t i : Nat} (h : IV σ pl gq ci gr nc ot LL N nu) (hr : kO σ r 9) (hq : gq c = 11 ∨ gq c = 12) (hc : (ci c : Int) < gI σ r 10) (kt : kO σ t 10) (ht : gq t = 1) (hct : ci t = ci c) (ho : gI σ t 0 = (i : Int)) (h7 : 0 ≤ ot i 7) : PlC σ gq ci ot c := by
  refine ⟨?_, fun _ r' hr' => by rw [h.un hr' hr rfl]; exact hc, fun w => by omega, fun w => by omega, fun w => by omega, fun w => by omega, fun _ t' kt' ht' hct' => ?_⟩
  · rcases hq with w | w <;> rw [w] <;> decide
  · rw [h.un' kt' kt rfl (by omega) (by omega), ho]; exact h7
theorem i_X8_fresh (iσ : IV σ pl gq ci gr nc ot LL N nu) (kth : kO σ th 8) (hb : N 14 + N 44 + N 74 + N 1 ≤ 41000) {Q : Sg → Option Nat → Prop} {X : Sg → String → Prop} (hQ : ∀ (σ' : Sg) (LL' : Nat → List Nat) (N' nu' : Nat → Nat) (c : Nat), IV σ' pl gq ci gr nc ot LL' N' nu' → Fx FRL gr σ σ' → NU nu nu' → Hn (gD σ) [] [] gq LL LL' N N' → ((∀ x, c ∉ LL' x) ∧ (∀ d, kO σ d 0 → (∀ x, d ∉ LL x) → d ≠ c) ∧ (c ∉ gD σ ∨ ∃ y, c ∈ LL y) ∧ N' 1 = N 1 + 1) → Q σ' (some c)) : wp_X8_fresh th σ Q X := by
  have := iσ.pool kth; subst this
  have q0 := iσ.ss.2.1
  refine i_fresh iσ kth hb (fun σ' LL' N' nu' c i f u p => hQ σ' LL' N' nu' c i f u ⟨fun x _ _ q => p.2.2.2.1 x (fun w => q (by rw [w]; exact q0)), fun d hd _ hh => ?_, fun g _ a b e => p.2.2.2.2.1 g (by simp only [List.mem_cons, List.mem_nil_iff, or_false, not_or]; exact ⟨a, b, e⟩)⟩ ⟨p.2.1, fun d hd hh => (p.2.2.1 d hd hh).1, p.2.2.2.2.2.2.2, p.2.2.2.2.2.1⟩)
  intro x hx
  by_cases w : x = th
  · subst w
    obtain ⟨own, hp⟩ := i.hp
    have kd := (hp.2.2.1 x d hx).2
    have kd0 : kO σ d 0 := ⟨hd, by rw [← (f.1 d hd).2.1]; exact kd.2⟩
    exact (p.2.2.1 d kd0 hh).2 x hx
  · rw [p.2.2.2.1 x w] at hx; exact hh x hx
theorem i_X1_takeFirst {G0 : Nat} (iσ : IV σ pl gq ci gr nc ot LL N nu) (kth : kO σ th 1) (hg : gq th = G0) {Q : Sg → Option Nat → Prop} {X : Sg → String → Prop}
    (hQ : ∀ (σ' : Sg) (LL' : Nat → List Nat) (N' nu' : Nat → Nat) (r : Option Nat), IV σ' pl gq ci gr nc ot LL' N' nu' → Fx CH gr σ σ' → NU nu nu' → Hn (gD σ) [G0] [] gq LL LL' N N' → ((LL th = [] ∧ r = none ∧ LL' = LL ∧ N' = N) ∨ (∃ c T, LL th = c :: T ∧ r = some c ∧ LL' = up1 LL th T ∧ kO σ c 0 ∧ (∀ x, c ∉ LL' x) ∧ N' G0 + 1 = N G0 ∧ N' 1 = N 1 + 1 ∧ N' 0 = N 0 ∧ N' 2 = N 2)) → Q σ' r) : wp_X1_takeFirst th σ Q X := by
  subst hg
  refine i_takeFirst iσ kth (fun e => hQ σ LL N nu none iσ Fx.rf NU.rf Hn.rf (Or.inl ⟨e, rfl, rfl, rfl⟩)) (fun c T e σ' N' i f n1 n2 n3 kc hh => hQ σ' _ N' nu (some c) i f NU.rf ⟨fun x _ q _ => up1_n _ _ (fun w => q (by rw [w]; exact List.mem_singleton.mpr rfl)), fun d _ _ hd x hx => ?_, fun g q _ b _ => n1 g (by simp only [List.mem_cons, List.mem_nil_iff, or_false, not_or]; exact ⟨fun w => q (by rw [w]; exact List.mem_singleton.mpr rfl), b⟩)⟩ (Or.inr ⟨c, T, e, rfl, rfl, kc, hh, n2, n3, ?_, ?_⟩))
  · by_cases w : x = th
    · subst w; rw [up1_s] at hx; exact hd x (by rw [e]; exact List.mem_cons_of_mem _ hx)
    · rw [up1_n _ _ w] at hx; exact hd x hx
  · have hg := gl12 _ (iσ.ss.2.2.2.2.2.1 th kth (by rw [e]; simp)).1
    exact n1 0 (by simp only [List.mem_cons, List.mem_nil_iff, or_false, not_or]; omega)
  · have hg := gl12 _ (iσ.ss.2.2.2.2.2.1 th kth (by rw [e]; simp)).1
    exact n1 2 (by simp only [List.mem_cons, List.mem_nil_iff, or_false, not_or]; omega)
theorem i_X1_cutBehind {v1 : Option Nat} {G0 : Nat} {A B : List Nat} (iσ : IV σ pl gq ci gr nc ot LL N nu) (kth : kO σ th 1) (hg : gq th = G0) (hL : LL th = A ++ B) (hv : v1 = A.getLast?) {Q : Sg → Option Nat → Prop} {X : Sg → String → Prop}
    (hQ : ∀ (σ' : Sg) (LL' : Nat → List Nat) (N' nu' : Nat → Nat) (r : Option Nat), IV σ' pl gq ci gr nc ot LL' N' nu' → Fx CH gr σ σ' → NU nu nu' → Hn (gD σ) [G0] [] gq LL LL' N N' → ((B = [] ∧ r = none ∧ LL' = LL ∧ N' = N) ∨ (∃ c T, B = c :: T ∧ r = some c ∧ LL' = up1 LL th (A ++ T) ∧ kO σ c 0 ∧ (∀ x, c ∉ LL' x) ∧ N' G0 + 1 = N G0 ∧ N' 1 = N 1 + 1 ∧ N' 0 = N 0 ∧ N' 2 = N 2)) → Q σ' r) : wp_X1_cutBehind th v1 σ Q X := by
  subst hg
  refine i_cutBehind iσ kth hL hv (fun e => hQ σ LL N nu none iσ Fx.rf NU.rf Hn.rf (Or.inl ⟨e, rfl, rfl, rfl⟩)) (fun c T e σ' N' i f n1 n2 n3 kc hh => hQ σ' _ N' nu (some c) i f NU.rf ⟨fun x _ q _ => up1_n _ _ (fun w => q (by rw [w]; exact List.mem_singleton.mpr rfl)), fun d _ _ hd x hx => ?_, fun g q _ b _ => n1 g (by simp only [List.mem_cons, List.mem_nil_iff, or_false, not_or]; exact ⟨fun w => q (by rw [w]; exact List.mem_singleton.mpr rfl), b⟩)⟩ (Or.inr ⟨c, T, e, rfl, rfl, kc, hh, n2, n3, ?_, ?_⟩))
  · by_cases w : x = th
    · subst w; rw [up1_s] at hx
      refine hd x ?_
      rw [hL, e]; rcases List.mem_append.mp hx with v | v
      · exact List.mem_append_left _ v
      · exact List.mem_append_right _ (List.mem_cons_of_mem _ v)
    · rw [up1_n _ _ w] at hx; exact hd x hx
  · have hg := gl12 _ (iσ.ss.2.2.2.2.2.1 th kth (by rw [hL, e]; simp)).1
    exact n1 0 (by simp only [List.mem_cons, List.mem_nil_iff, or_false, not_or]; omega)
  · have hg := gl12 _ (iσ.ss.2.2.2.2.2.1 th kth (by rw [hL, e]; simp)).1
    exact n1 2 (by simp only [List.mem_cons, List.mem_nil_iff, or_false, not_or]; omega)
theorem i_X1_moveAllTo {v1 : Option Nat} {c1 G0 G1 : Nat} (iσ : IV σ pl gq ci gr nc ot LL N nu) (kth : kO σ th 1) (hv1 : v1 = some c1) (kc1 : kO σ c1 1) (hg : gq th = G0) (hg1 : gq c1 = G1) (h01 : G0 ≠ G1) (h11 : 11 ≤ G0) (hP : PlC σ gq ci ot c1) (h50 : G1 ≠ 50 ∧ G1 ≠ 13)
    (hC : ∀ N', NF [G0, G1] N N' → N' G0 + (LL th).length = N G0 → N' G1 = N G1 + (LL th).length → SC σ gq N') {Q : Sg → Unit → Prop} {X : Sg → String → Prop}
    (hQ : ∀ (σ' : Sg) (LL' : Nat → List Nat) (N' nu' : Nat → Nat) (r : Unit), IV σ' pl gq ci gr nc ot LL' N' nu' → Fx CH gr σ σ' → NU nu nu' → Hn (gD σ) [G0, G1] [] gq LL LL' N N' → (LL' th = [] ∧ LL' c1 = LL c1 ++ LL th ∧ (∀ x, x ≠ th → x ≠ c1 → LL' x = LL x) ∧ N' G0 + (LL th).length = N G0 ∧ N' G1 = N G1 + (LL th).length ∧ N' 0 = N 0 ∧ N' 1 = N 1 ∧ N' 2 = N 2) → Q σ' r) : wp_X1_moveAllTo th v1 σ Q X := by
  subst hv1; subst hg; subst hg1
  have hne : th ≠ c1 := fun w => h01 (by rw [w])
  have g1 := gl12 _ hP.1
  refine i_moveAllTo iσ kth kc1 h01 h11 hP h50 hC (fun σ' N' i f n1 n2 n3 => hQ σ' _ N' nu () i f NU.rf ⟨fun x _ q _ => ?_, fun d _ _ hd x hx => ?_, fun g q _ b _ => n1 g q⟩ ⟨by rw [up1_n _ _ hne, up1_s], up1_s _ _ _, fun x q1 q2 => by rw [up1_n _ _ q2, up1_n _ _ q1], n2, n3, n1 0 (by simp only [List.mem_cons, List.mem_nil_iff, or_false, not_or]; omega), n1 1 (by simp only [List.mem_cons, List.mem_nil_iff, or_false, not_or]; omega), n1 2 (by simp only [List.mem_cons, List.mem_nil_iff, or_false, not_or]; omega)⟩)
  · simp only [List.mem_cons, List.mem_nil_iff, or_false, not_or] at q
    rw [up1_n _ _ (fun w => q.2 (by rw [w])), up1_n _ _ (fun w => q.1 (by rw [w]))]
  · by_cases w : x = c1
    · subst w; rw [up1_s] at hx
      rcases List.mem_append.mp hx with v | v
      · exact hd x v
      · exact hd th v
    · rw [up1_n _ _ w] at hx
      by_cases w2 : x = th
      · subst w2; rw [up1_s] at hx; cases hx
      · rw [up1_n _ _ w2] at hx; exact hd x hx
theorem i_X1_add {v1 : Option Nat} {c1 G0 : Nat} (iσ : IV σ pl gq ci gr nc ot LL N nu) (kth : kO σ th 1) (hv1 : v1 = some c1) (kc1 : kO σ c1 0) (hg : gq th = G0) (hf : ∀ x, c1 ∉ LL x) (h1 : 1 ≤ N 1) (hP : PlC σ gq ci ot th) (h50 : G0 = 50 → (LL th).length < 8) (h13 : G0 = 13 → (0 ≤ gI σ c1 3 ∧ gI σ c1 3 < (nu 16 : Int))) (hC : ∀ N', NF [G0, 1] N N' → N' G0 = N G0 + 1 → SC σ gq N') {Q : Sg → Unit → Prop} {X : Sg → String → Prop}
    (hQ : ∀ (σ' : Sg) (LL' : Nat → List Nat) (N' nu' : Nat → Nat) (r : Unit), IV σ' pl gq ci gr nc ot LL' N' nu' → Fx CH gr σ σ' → NU nu nu' → Hn (gD σ) [G0] [c1] gq LL LL' N N' → (LL' = up1 LL th (LL th ++ [c1]) ∧ N' G0 = N G0 + 1 ∧ N' 1 + 1 = N 1 ∧ N' 0 = N 0 ∧ N' 2 = N 2) → Q σ' r) : wp_X1_add th v1 σ Q X := by
  subst hv1; subst hg
  have hg := gl12 _ hP.1
  refine i_add iσ kth kc1 hf h1 hP h50 h13 hC (fun σ' N' i f n1 n2 n3 => hQ σ' _ N' nu () i f NU.rf ⟨fun x _ q _ => up1_n _ _ (fun w => q (by rw [w]; exact List.mem_singleton.mpr rfl)), fun d _ q hd x hx => ?_, fun g q _ b _ => n1 g (by simp only [List.mem_cons, List.mem_nil_iff, or_false, not_or]; exact ⟨fun w => q (by rw [w]; exact List.mem_singleton.mpr rfl), b⟩)⟩ ⟨rfl, n2, n3, ?_, ?_⟩)
  · by_cases w : x = th
    · subst w; rw [up1_s] at hx
      rcases List.mem_append.mp hx with v | v
      · exact hd x v
      · exact q v
    · rw [up1_n _ _ w] at hx; exact hd x hx
  · exact n1 0 (by simp only [List.mem_cons, List.mem_nil_iff, or_false, not_or]; omega)
  · exact n1 2 (by simp only [List.mem_cons, List.mem_nil_iff, or_false, not_or]; omega)
theorem i_X1_insert {v1 : Option Nat} {v2 v3 : Int} {c1 G0 : Nat} (iσ : IV σ pl gq ci gr nc ot LL N nu) (kth : kO σ th 1) (hv1 : v1 = some c1) (kc1 : kO σ c1 0) (hg : gq th = G0) (hf : ∀ x, c1 ∉ LL x) (h1 : 1 ≤ N 1) (hP : PlC σ gq ci ot th) (h50 : G0 = 50 → (LL th).length < 8) (h13 : G0 = 13 → (0 ≤ gI σ c1 3 ∧ gI σ c1 3 < (nu 16 : Int))) (hC : ∀ N', NF [G0, 1] N N' → N' G0 = N G0 + 1 → SC σ gq N') {Q : Sg → Unit → Prop} {X : Sg → String → Prop}
    (hQ : ∀ (σ' : Sg) (LL' : Nat → List Nat) (N' nu' : Nat → Nat) (r : Unit), IV σ' pl gq ci gr nc ot LL' N' nu' → Fx CH gr σ σ' → NU nu nu' → Hn (gD σ) [G0] [c1] gq LL LL' N N' → ((∃ A B, LL th = A ++ B ∧ LL' = up1 LL th (A ++ c1 :: B)) ∧ N' G0 = N G0 + 1 ∧ N' 1 + 1 = N 1 ∧ N' 0 = N 0 ∧ N' 2 = N 2) → Q σ' r) : wp_X1_insert th v1 v2 v3 σ Q X := by
  subst hv1; subst hg
  have hg := gl12 _ hP.1
  refine i_insert iσ kth kc1 hf h1 hP h50 h13 hC (fun σ' N' A B e i f n1 n2 n3 => hQ σ' _ N' nu () i f NU.rf ⟨fun x _ q _ => up1_n _ _ (fun w => q (by rw [w]; exact List.mem_singleton.mpr rfl)), fun d _ q hd x hx => ?_, fun g q _ b _ => n1 g (by simp only [List.mem_cons, List.mem_nil_iff, or_false, not_or]; exact ⟨fun w => q (by rw [w]; exact List.mem_singleton.mpr rfl), b⟩)⟩ ⟨⟨A, B, e, rfl⟩, n2, n3, ?_, ?_⟩)
  · by_cases w : x = th
    · subst w; rw [up1_s] at hx
      rcases List.mem_append.mp hx with v | v
      · exact hd x (by rw [e]; exact List.mem_append_left _ v)
      · rcases List.mem_cons.mp v with v | v
        · exact q (List.mem_singleton.mpr v)
        · exact hd x (by rw [e]; exact List.mem_append_right _ v)
    · rw [up1_n _ _ w] at hx; exact hd x hx
  · exact n1 0 (by simp only [List.mem_cons, List.mem_nil_iff, or_false, not_or]; omega)
  · exact n1 2 (by simp only [List.mem_cons, List.mem_nil_iff, or_false, not_or]; omega)
theorem i_X8_release {v1 : Option Nat} {c1 : Nat} (iσ : IV σ pl gq ci gr nc ot LL N nu) (kth : kO σ th 8) (hv1 : v1 = some c1) (kc1 : kO σ c1 0) (hf : ∀ x, c1 ∉ LL x) (h1 : 1 ≤ N 1) {Q : Sg → Unit → Prop} {X : Sg → String → Prop}
    (hQ : ∀ (σ' : Sg) (LL' : Nat → List Nat) (N' nu' : Nat → Nat) (r : Unit), IV σ' pl gq ci gr nc ot LL' N' nu' → Fx CH gr σ σ' → NU nu nu' → Hn (gD σ) [] [c1] gq LL LL' N N' → (N' 1 + 1 = N 1 ∧ N' 0 = N 0 + 1 ∧ N' 2 = N 2) → Q σ' r) : wp_X8_release th v1 σ Q X := by
  subst hv1
  have := iσ.pool kth; subst this
  refine i_release iσ kc1 hf h1 (fun σ' N' i f n1 n2 n3 => hQ σ' _ N' nu () i f NU.rf ⟨fun x _ _ q => up1_n _ _ (fun w => q (by rw [w]; exact iσ.ss.2.1)), fun d _ q hd x hx => ?_, fun g _ a b _ => n1 g (by simp only [List.mem_cons, List.mem_nil_iff, or_false, not_or]; exact ⟨a, b⟩)⟩ ⟨n3, n2, n1 2 (by simp only [List.mem_cons, List.mem_nil_iff, or_false, not_or]; omega)⟩)
  by_cases w : x = th
  · subst w; rw [up1_s] at hx
    rcases List.mem_cons.mp hx with v | v
    · exact q (List.mem_singleton.mpr v)
    · exact hd x v
  · rw [up1_n _ _ w] at hx; exact hd x hx
theorem i_X8_releaseAll {v1 : Option Nat} {c1 G0 : Nat} (iσ : IV σ pl gq ci gr nc ot LL N nu) (kth : kO σ th 8) (hv1 : v1 = some c1) (kc1 : kO σ c1 1) (hg : gq c1 = G0) (h11 : 11 ≤ G0) {Q : Sg → Unit → Prop} {X : Sg → String → Prop}
    (hQ : ∀ (σ' : Sg) (LL' : Nat → List Nat) (N' nu' : Nat → Nat) (r : Unit), IV σ' pl gq ci gr nc ot LL' N' nu' → Fx CH gr σ σ' → NU nu nu' → Hn (gD σ) [G0] [] gq LL LL' N N' → (LL' c1 = [] ∧ (∀ x, x ≠ c1 → gq x ≠ 0 → LL' x = LL x) ∧ N' G0 + (LL c1).length = N G0 ∧ N' 1 = N 1 ∧ N' 2 = N 2 ∧ N' 0 = N 0 + (LL c1).length) → Q σ' r) : wp_X8_releaseAll th v1 σ Q X := by
  subst hv1; subst hg
  have := iσ.pool kth; subst this
  have q0 := iσ.ss.2.1
  have nc1 : c1 ≠ th := kc1.ne kth (by decide)
  refine i_releaseAll iσ kc1 h11 (fun σ' N' i f n1 n2 n3 => hQ σ' _ N' nu () i f NU.rf ⟨fun x _ q q9 => ?_, fun d _ _ hd x hx => ?_, fun g q a b _ => n1 g (by simp only [List.mem_cons, List.mem_nil_iff, or_false, not_or]; exact ⟨fun w => q (by rw [w]; exact List.mem_singleton.mpr rfl), a⟩)⟩ ⟨by rw [up1_n _ _ nc1, up1_s], fun x w1 w2 => by rw [up1_n _ _ (fun w => w2 (by rw [w]; exact q0)), up1_n _ _ w1], n2, n1 1 (by simp only [List.mem_cons, List.mem_nil_iff, or_false, not_or]; omega), n1 2 (by simp only [List.mem_cons, List.mem_nil_iff, or_false, not_or]; omega), n3⟩)
  · rw [up1_n _ _ (fun w => q9 (by rw [w]; exact q0)), up1_n _ _ (fun w => q (by rw [w]; exact List.mem_singleton.mpr rfl))]
  · by_cases w : x = th
    · subst w; rw [up1_s] at hx
      rcases List.mem_append.mp hx with v | v
      · exact hd c1 v
      · exact hd x v
    · rw [up1_n _ _ w] at hx
      by_cases w2 : x = c1
      · subst w2; rw [up1_s] at hx; cases hx
      · rw [up1_n _ _ w2] at hx; exact hd x hx
end FRF
/-- the pass's rows: as many as before -/
def NZ (N N' : Nat → Nat) : Prop := ∀ g, 80 ≤ g → g ≤ 95 → N' g = N g
theorem NZ.rf {N : Nat → Nat} : NZ N N := fun _ _ _ => rfl
theorem NZ.tr {N N' N'' : Nat → Nat} (h : NZ N N') (h2 : NZ N' N'') : NZ N N'' := fun g a b => (h2 g a b).trans (h g a b)
theorem Hn.nz {D G E : List Nat} {gq N N' : Nat → Nat} {LL LL' : Nat → List Nat} (h : Hn D G E gq LL LL' N N') (hG : ∀ x ∈ G, x < 80 ∨ 95 < x) : NZ N N' := fun g a b => h.2.2 g (fun w => by have := hG g w; omega) (by omega) (by omega) (by omega)

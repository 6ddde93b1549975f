theorem i4_X11_drop {σ : Sg} {pl : Nat} {gq ci gr nc : Nat → Nat} {ot : Nat → Nat → Int} {LL : Nat → List Nat} {N nu : Nat → Nat} {th : Nat} {v1 v2 : Option Nat} {G0 : Nat} {A B : List Nat} (iσ : IV σ pl gq ci gr nc ot LL N nu) (kth : kO σ th 11) {x : Nat} (hv1 : v1 = some x) (kx : kO σ x 1) (hq : gq th = 4) (hg : gq x = G0) (hG : G0 = 41 ∨ G0 = 42) (hL : LL x = A ++ B) (hv : v2 = A.getLast?) {Q : Sg → Unit → Prop} {X : Sg → String → Prop}
    (hQ : ∀ (σ' : Sg) (LL' : Nat → List Nat) (N' nu' : Nat → Nat) (r : Unit), IV σ' pl gq ci gr nc ot LL' N' nu' → Fx [1, 64, 512, 708] gr σ σ' → NU nu nu' → Hn (gD σ) [G0] [] gq LL LL' N N' → (N' 1 = N 1 ∧ N' G0 ≤ N G0 ∧ LL' x = A ++ B.tail ∧ (∀ y ∈ gD σ, y ≠ x → gq y ≠ 0 → LL' y = LL y)) → Q σ' r) : wp_X11_drop th v1 v2 σ Q X := by
  subst hv1
  have rc := iσ.recs4 kth hq
  have q4 := I_11_4 iσ.1 kth
  unfold wp_X11_drop w_X11_drop_0
  refine ⟨x, rfl, fun _ => ?_⟩
  refine i_X1_cutBehind (G0 := G0) (A := A) (B := B) iσ kx hg hL hv (fun σ7 LL7 N7 nu7 r i7 c7 u7 h7 p => ?_)
  intro x7 ty
  have k4 : gI σ7 th 4 = gI σ th 4 := (c7.O kth (by decide)).1
  rcases p with ⟨e1, e2, e3, e4⟩ | ⟨c, T, e1, e2, e3, kc, hc, n1, n2, n3, n4⟩
  · subst e2
    rw [if_pos rfl]
    unfold w_X11_drop_28
    refine hQ σ7 LL7 N7 nu7 () i7 (c7.mo (by decide)) u7 h7 ⟨by rw [e4], by rw [e4]; exact Nat.le_refl _, by rw [e3, hL, e1]; rfl, fun y _ _ _ => by rw [e3]⟩
  · subst e2
    rw [if_neg (by simp)]
    unfold w_X11_drop_10
    refine ⟨by rw [k4]; unfold rng; omega, ?_⟩
    intro σ10 e10
    have kth7 := kth.up x7
    have ob : N7 41 + N7 42 + 1 ≤ N 41 + N 42 := by
      rcases hG with g | g
      · have := h7.2.2 42 (by rw [g]; decide) (by decide) (by decide) (by decide); rw [g] at n1; omega
      · have := h7.2.2 41 (by rw [g]; decide) (by decide) (by decide) (by decide); rw [g] at n1; omega
    have i10 : IV σ10 pl gq ci gr nc ot LL7 N7 nu7 := by rw [e10]; exact i7.rec4 kth7 hq (by rw [k4]; omega) (by rw [k4]; omega)
    have x10 : Ext σ7 σ10 := by rw [e10]; exact fun _ h => ⟨h, rfl, rfl⟩
    have f10 : Fx [1, 64, 512, 708] gr σ σ10 := (c7.mo (by decide)).tr (Sk.fx (by rw [e10]; exact Sk.pI (by rw [fcdO kth7 (by decide)]; decide)))
    obtain ⟨pp, ep⟩ := P_11_0 i10.1 (kth7.up x10)
    refine ⟨pp, ep, fun kp => ?_⟩
    refine i_X8_release i10 kp rfl ((kc.up x7).up x10) hc (by omega) (fun σ11 LL11 N11 nu11 r i11 c11 u11 h11 p => ?_)
    intro x11
    unfold w_X11_drop_28
    have gx : gq x ≠ 0 := by omega
    have eLx : LL11 x = A ++ T := by rw [h11.1 x (x10 x (x7 x kx.1).1).1 (by simp) gx, e3, up1_s]
    refine hQ σ11 LL11 N11 nu11 () i11 (f10.tr (c11.mo (by decide))) (u7.tr u11) (Hn.go h7 h11 (fun d hd => (f10.1 d hd).1) (by simp) (fun d hd => ?_)) ⟨by omega, ?_, by rw [eLx, e1]; rfl, fun y hD hy gy => by rw [h11.1 y (x10 y (x7 y hD).1).1 (by simp) gy, e3, up1_n _ _ hy]⟩
    · rw [List.mem_singleton.mp hd]; exact Or.inr (Or.inr ⟨x, by rw [hL, e1]; exact List.mem_append_right _ List.mem_cons_self⟩)
    · have := h11.2.2 G0 (by simp) (by omega) (by omega) (by omega); omega

section HPC
variable {σ σ' : Sg} {pl th c : Nat} {LL : Nat → List Nat} {own : Nat → Nat}
theorem last_cons {c : Nat} {T : List Nat} (h : T ≠ []) : (c :: T).getLast? = T.getLast? := by
  cases T with
  | nil => exact absurd rfl h
  | cons d T => exact List.getLast?_cons_cons
/-- what cutBehind comes to, where the row without c is R -/
theorem cut_end {Q : Sg → Option Nat → Prop} {X : Sg → String → Prop} {v1 : Option Nat} {R : List Nat} {σ9 : Sg} (h : HP σ pl LL own) (ht : kO σ th 1) (hG : RG σ) (hcL : c ∈ LL th) (hcR : c ∉ R) (hsub : ∀ d ∈ R, d ∈ LL th) (hnd : R.Nodup) (hlen : (LL th).length = R.length + 1) (hlast : (LL th).getLast? = some c → v1 = R.getLast?) (hlast2 : (LL th).getLast? ≠ some c → (LL th).getLast? = R.getLast?)
    (k1 : σ9.1 = σ.1) (k2 : gk σ9 = gk σ) (k3 : gn σ9 = gn σ) (k4 : gJ σ9 = gJ σ) (k5 : gI σ9 = gI σ) (k6 : gP σ9 th 1 = gP σ th 1) (k7 : ∀ a k, ¬ (a ∈ LL th ∧ k = 1) → ¬ (a = th ∧ k = 0) → gP σ9 a k = gP σ a k) (k8 : ∀ nx : Nat → Option Nat, (∀ d ∈ R, nx d = gP σ9 d 1) → lk nx (gP σ9 th 0) R)
    (hQ : ∀ σ', HP σ' pl (up1 LL th R) own → FrH pl σ σ' → RG σ' → gJ σ' = gJ σ → (∀ a k, a ≠ th → gI σ' a k = gI σ a k) → gP σ' c 1 = none → Q σ' (some c)) : w_X1_cutBehind_45 th Q X σ9 v1 (some c) := by
  obtain ⟨a1, ⟨a2, a3⟩, a4, a5, a6, a7⟩ := id h
  obtain ⟨b1, b2, b3⟩ := a1 th ht
  have hc : kO σ c 0 := (a4 th c hcL).2
  have thp : th ≠ pl := ht.ne a2 (by decide)
  have thc : th ≠ c := ht.ne hc (by decide)
  have cell : ∀ x, ∀ d ∈ LL x, d ≠ th ∧ d ≠ pl := fun x d hd => ⟨fun e => (ht.ne (a4 x d hd).2 (by decide)) e.symm, fun e => (a2.ne (a4 x d hd).2 (by decide)) e.symm⟩
  have notc : ∀ x, x ≠ th → ∀ d ∈ LL x, d ∉ LL th := fun x q d hd hd2 => q ((a4 x d hd).1.symm.trans (a4 th d hd2).1)
  have fin : ∀ σ13 : Sg, σ13.1 = σ9.1 → gk σ13 = gk σ9 → gn σ13 = gn σ9 → gJ σ13 = gJ σ9 → gI σ13 = gI σ9 → (∀ a k, ¬ (a = th ∧ k = 1) → gP σ13 a k = gP σ9 a k) → gP σ13 th 1 = R.getLast? → w_X1_cutBehind_58 th Q X σ13 (some c) := by
    intro σ13 m1 m2 m3 m4 m5 m6 m7
    unfold w_X1_cutBehind_58
    refine ⟨by rw [m5, k5, b3]; have := hG th 2; rw [b3] at this; unfold rng at this ⊢; omega, ?_⟩
    intro σ14 e14
    refine ⟨c, rfl, fun _ => ?_⟩
    intro σ16 e16
    have hP : ∀ a k, gP σ16 a k = if a = c ∧ k = 1 then none else gP σ13 a k := by intro a k; rw [e16, gP_pP, e14, gP_pI]; rfl
    have hI : ∀ a k, gI σ16 a k = if a = th ∧ k = 2 then gI σ th 2 - 1 else gI σ a k := by intro a k; rw [e16, gI_pP, e14, gI_pI, m5, k5]; rfl
    have hPo : ∀ a k, ¬ (a ∈ LL th ∧ k = 1) → ¬ (a = th ∧ (k = 0 ∨ k = 1)) → gP σ16 a k = gP σ a k := fun a k q1 q2 => by
      rw [hP, if_neg (fun e : a = c ∧ k = 1 => q1 ⟨e.1 ▸ hcL, e.2⟩), m6 a k (fun e => q2 ⟨e.1, Or.inr e.2⟩), k7 a k q1 (fun e => q2 ⟨e.1, Or.inl e.2⟩)]
    have j1 : σ16.1 = σ.1 := by rw [e16, e14]; exact m1.trans k1
    have j2 : gk σ16 = gk σ := by rw [e16, e14]; exact m2.trans k2
    have j3 : gn σ16 = gn σ := by rw [e16, e14]; exact m3.trans k3
    have j4 : gJ σ16 = gJ σ := by rw [e16, e14]; exact m4.trans k4
    have hm : ∀ d ∈ R, own d = th ∧ kO σ d 0 := fun d hd => a4 th d (hsub d hd)
    have hp : HP σ16 pl (up1 (up1 LL th R) th R) own := by
      refine h.mk2 (t := th) (u := th) (L := R) (M := R) j1 j2 j3 (fun x q1 _ d hd => hPo d 1 (fun e => notc x q1 d hd e.1) (fun e => (cell x d hd).1 e.1)) (fun ch q1 _ hch => ?_) (fun q1 _ => hPo pl 0 (fun e => by have := e.2; omega) (fun e => q1 e.1)) (fun _ q => absurd rfl q) (fun _ => ?_) (fun q => absurd q.symm thp) (fun q => absurd q.symm thp) hm hm (fun x q1 _ d hd => (a4 x d hd).1) hnd hnd (Or.inr ht) (Or.inr ht) (fun d hd => hPo d 0 (fun e => by have := e.2; omega) (fun e => (ht.ne hd (by decide)) e.1.symm))
      · have u : ch ∉ LL th := fun e => (hch.ne (a4 th ch e).2 (by decide)) rfl
        exact ⟨hPo ch 0 (fun e => u e.1) (fun e => q1 e.1), hPo ch 1 (fun e => u e.1) (fun e => q1 e.1), by rw [hI, if_neg (fun e : ch = th ∧ _ => q1 e.1)]⟩
      · refine ⟨?_, ?_, ?_⟩
        · have e0 : gP σ16 th 0 = gP σ9 th 0 := by rw [hP, if_neg (fun e : th = c ∧ _ => thc e.1), m6 th 0 (fun e => by have := e.2; omega)]
          rw [e0]
          exact k8 _ (fun d hd => by
            show gP σ16 d 1 = _
            rw [hP, if_neg (fun e : d = c ∧ _ => hcR (e.1 ▸ hd)), m6 d 1 (fun e => (cell th d (hsub d hd)).1 e.1)])
        · rw [hP, if_neg (fun e : th = c ∧ _ => thc e.1), m7]
        · rw [hI, if_pos ⟨rfl, rfl⟩, b3, hlen]; omega
    rw [up1_2] at hp
    refine hQ σ16 hp ⟨j1, j2, j3, fun a k q1 q2 => by rw [hI, if_neg (fun e : a = th ∧ k = 2 => q2 (e.1 ▸ ht))], fun a k _ => by rw [j4], fun a k q1 q2 q3 => hPo a k (fun e => q1 ⟨(a4 th a e.1).2, e.2⟩) (fun e => q2 (e.1 ▸ ht))⟩ (fun a k => ?_) j4 (fun a k q => by rw [hI, if_neg (fun e : a = th ∧ k = 2 => q e.1)]) (by rw [hP, if_pos ⟨rfl, rfl⟩])
    rw [hI]
    split
    · have := hG th 2; rw [b3] at this ⊢; unfold rng at this ⊢; omega
    · exact hG a k
  unfold w_X1_cutBehind_45
  by_cases q : (LL th).getLast? = some c
  · rw [if_neg (by rw [k6, b2, q]; simp)]
    unfold w_X1_cutBehind_53
    intro σ13 e13
    refine fin σ13 (by rw [e13]) (by rw [e13]) (by rw [e13]) (by rw [e13]) (by rw [e13]) (fun a k q1 => by rw [e13, gP_pP]; exact up2_n _ _ q1) (by rw [e13, gP_pP, hlast q]; exact up2_s _ _ _ _)
  · rw [if_pos (by rw [k6, b2]; exact q)]
    exact fin σ9 rfl rfl rfl rfl rfl (fun _ _ _ => rfl) (by rw [k6, b2, hlast2 q])
/-- the first one is taken -/
theorem s_X1_cutFirst {Q : Sg → Option Nat → Prop} {X : Sg → String → Prop} (h : HP σ pl LL own) (ht : kO σ th 1) (hG : RG σ) (h0 : LL th = [] → Q σ none) (hQ : ∀ c T, LL th = c :: T → ∀ σ', HP σ' pl (up1 LL th T) own → FrH pl σ σ' → RG σ' → gJ σ' = gJ σ → (∀ a k, a ≠ th → gI σ' a k = gI σ a k) → gP σ' c 1 = none → Q σ' (some c)) : wp_X1_cutBehind th none σ Q X := by
  obtain ⟨a1, ⟨a2, a3⟩, a4, a5, a6, a7⟩ := id h
  obtain ⟨b1, b2, b3⟩ := a1 th ht
  unfold wp_X1_cutBehind w_X1_cutBehind_0
  rw [if_neg (by simp)]
  unfold w_X1_cutBehind_4 w_X1_cutBehind_15
  cases hL : LL th with
  | nil =>
    rw [hL] at b1
    rw [if_neg (by rw [show gP σ th 0 = none from b1]; simp)]
    exact h0 hL
  | cons c T =>
    rw [hL] at b1
    have n0 := a5 th; rw [hL] at n0
    have nd := List.nodup_cons.mp n0
    have e0 : gP σ th 0 = some c := b1.1
    rw [if_pos (by rw [e0]; simp), e0]
    unfold w_X1_cutBehind_22
    rw [if_neg (by simp)]
    unfold w_X1_cutBehind_26
    refine ⟨c, rfl, fun _ => ?_⟩
    intro σ12 e12
    have cellth : ∀ d ∈ LL th, d ≠ th := fun d hd e => (ht.ne (a4 th d hd).2 (by decide)) e.symm
    refine cut_end (R := T) (c := c) h ht hG (by rw [hL]; exact List.mem_cons_self) nd.1 (fun d hd => by rw [hL]; exact List.mem_cons_of_mem _ hd) nd.2 (by rw [hL]; rfl) (fun q => ?_) (fun q => ?_) (by rw [e12]) (by rw [e12]) (by rw [e12]) (by rw [e12]) (by rw [e12]) (by rw [e12, gP_pP]; exact up2_n _ _ (fun e => by have := e.2; omega)) (fun a k _ q2 => by rw [e12, gP_pP]; exact up2_n _ _ q2) (fun nx hnx => ?_) (hQ c T hL)
    · cases T with
      | nil => rfl
      | cons d T => rw [hL, List.getLast?_cons_cons] at q; exact absurd (List.mem_of_getLast? q) nd.1
    · cases T with
      | nil => exact absurd (by rw [hL]; rfl) q
      | cons d T => rw [hL]; exact List.getLast?_cons_cons
    · have e1 : gP σ12 th 0 = gP σ c 1 := by rw [e12, gP_pP]; exact up2_s _ _ _ _
      rw [e1]
      refine lk_congr (fun d hd => ?_) b1.2
      rw [hnx d hd, e12, gP_pP]
      exact up2_n _ _ (fun e => by have := e.2; omega)
theorem s_X1_takeFirst {Q : Sg → Option Nat → Prop} {X : Sg → String → Prop} (h : HP σ pl LL own) (ht : kO σ th 1) (hG : RG σ) (h0 : LL th = [] → Q σ none) (hQ : ∀ c T, LL th = c :: T → ∀ σ', HP σ' pl (up1 LL th T) own → FrH pl σ σ' → RG σ' → gJ σ' = gJ σ → (∀ a k, a ≠ th → gI σ' a k = gI σ a k) → gP σ' c 1 = none → Q σ' (some c)) : wp_X1_takeFirst th σ Q X := by
  obtain ⟨b1, b2, b3⟩ := h.1 th ht
  unfold wp_X1_takeFirst w_X1_takeFirst_0
  cases hL : LL th with
  | nil =>
    rw [hL] at b1
    rw [if_neg (by rw [show gP σ th 0 = none from b1]; simp)]
    exact h0 hL
  | cons c T =>
    rw [hL] at b1
    rw [if_pos (by rw [b1.1]; simp)]
    exact s_X1_cutFirst h ht hG (fun q => by rw [hL] at q; cases q) (fun c9 T9 q σ' u1 u2 u3 u4 u5 u6 _ _ => hQ c9 T9 q σ' u1 u2 u3 u4 u5 u6)
end HPC

/-- one into a row, ahead of B -/
theorem lk_put {nx nx' : Nat → Option Nat} {c : Nat} {B : List Nat} : ∀ {A : List Nat} {v : Option Nat}, lk nx v (A ++ B) → (A ++ B).Nodup → c ∉ A ++ B → nx' c = B.head? → (∀ b, A.getLast? = some b → nx' b = some c) → (∀ x ∈ A ++ B, A.getLast? ≠ some x → nx' x = nx x) → lk nx' (if A = [] then some c else v) (A ++ c :: B)
  | [], v, h, _, _, h1, _, h3 => by
    rw [if_pos rfl]
    refine ⟨rfl, ?_⟩
    have e : v = B.head? := by
      cases B with
      | nil => exact h
      | cons d T => exact h.1
    show lk nx' (nx' c) B
    rw [h1, ← e]
    exact lk_congr (fun x hx => h3 x hx (by simp)) h
  | [b], v, h, hn, hc, h1, h2, h3 => by
    rw [if_neg (by simp)]
    refine ⟨h.1, ?_⟩
    rw [h2 b rfl]
    refine ⟨rfl, ?_⟩
    have h9 : lk nx (nx b) B := h.2
    have e : nx b = B.head? := by
      cases B with
      | nil => exact h9
      | cons d T => exact h9.1
    show lk nx' (nx' c) B
    rw [h1, ← e]
    refine lk_congr (fun x hx => h3 x (List.mem_append_right _ hx) (fun q => ?_)) h9
    have : b = x := Option.some.inj q
    subst this
    exact (List.nodup_cons.mp hn).1 hx
  | b :: d :: A, v, h, hn, hc, h1, h2, h3 => by
    rw [if_neg (by simp)]
    refine ⟨h.1, ?_⟩
    have hbd : (b :: d :: A).getLast? ≠ some b := by
      intro e
      rw [List.getLast?_cons_cons] at e
      exact (List.nodup_cons.mp hn).1 (List.mem_append_left _ (List.mem_of_getLast? e))
    rw [h3 b List.mem_cons_self hbd]
    have ih := lk_put (nx := nx) (nx' := nx') (c := c) (B := B) (A := d :: A) h.2 (List.nodup_cons.mp hn).2 (fun q => hc (List.mem_cons_of_mem _ q)) h1 (fun x hx => h2 x (by rw [List.getLast?_cons_cons]; exact hx)) (fun x hx hl => h3 x (List.mem_cons_of_mem _ hx) (by rw [List.getLast?_cons_cons]; exact hl))
    rw [if_neg (by simp)] at ih
    exact ih
section INS
variable {σ σ' : Sg} {gq ci gr nc N N' nu : Nat → Nat} {ot : Nat → Nat → Int} {LL LL' : Nat → List Nat} {pl th c : Nat} {own : Nat → Nat} {A B : List Nat}
theorem hp_ins (h : HP σ pl LL own) (ht : kO σ th 1) (hc : kO σ c 0) (hf : ∀ x, c ∉ LL x) (e : LL th = A ++ B) (hB : B ≠ []) (k1 : σ'.1 = σ.1) (k2 : gk σ' = gk σ) (k3 : gn σ' = gn σ) (k5 : ∀ a k, ¬ (a = th ∧ k = 2) → gI σ' a k = gI σ a k) (k6 : gI σ' th 2 = gI σ th 2 + 1)
    (k7 : ∀ a k, ¬ (a = c ∧ k = 1) → ¬ (A = [] ∧ a = th ∧ k = 0) → ¬ (A.getLast? = some a ∧ k = 1) → gP σ' a k = gP σ a k) (k8 : gP σ' c 1 = B.head?) (k9 : A = [] → gP σ' th 0 = some c) (k10 : ∀ b, A.getLast? = some b → gP σ' b 1 = some c) : HP σ' pl (up1 LL th (A ++ c :: B)) (up1 own c th) := by
  obtain ⟨a1, ⟨a2, a3⟩, a4, a5, a6, a7⟩ := id h
  obtain ⟨b1, b2, b3⟩ := a1 th ht
  have thc : th ≠ c := ht.ne hc (by decide)
  have thp : th ≠ pl := ht.ne a2 (by decide)
  have plc : pl ≠ c := a2.ne hc (by decide)
  have inA : ∀ b, A.getLast? = some b → b ∈ LL th := fun b q => by rw [e]; exact List.mem_append_left _ (List.mem_of_getLast? q)
  have kd : ∀ a k, a ≠ c → (∀ b, A.getLast? = some b → a ≠ b) → a ≠ th → gP σ' a k = gP σ a k := fun a k q1 q2 q3 => k7 a k (fun q => q1 q.1) (fun q => q3 q.2.1) (fun q => q2 a q.1 rfl)
  have hp : HP σ' pl (up1 (up1 LL th (A ++ c :: B)) th (A ++ c :: B)) (up1 own c th) := by
    refine h.mk2 k1 k2 k3 (fun x q1 _ d hd => ?_) (fun ch q1 _ hch => ?_) (fun q1 _ => ?_) (fun _ q => absurd rfl q) (fun _ => ?_) (fun q => absurd q.symm thp) (fun q => absurd q.symm thp) (fun d hd => ?_) (fun d hd => ?_) (fun x q1 _ d hd => ?_) ?_ ?_ (Or.inr ht) (Or.inr ht) (fun d hd => ?_)
    · exact kd d 1 (fun q => hf x (q ▸ hd)) (fun b q1' q2 => q1 (by rw [q2] at hd; exact (a4 x b hd).1.symm.trans (a4 th b (inA b q1')).1)) (fun q => (ht.ne (a4 x d hd).2 (by decide)) q.symm)
    · have u1 : ch ≠ c := hch.ne hc (by decide)
      have u2 : ∀ b, A.getLast? = some b → ch ≠ b := fun b q => hch.ne (a4 th b (inA b q)).2 (by decide)
      exact ⟨kd ch 0 u1 u2 q1, kd ch 1 u1 u2 q1, k5 ch 2 (fun q => q1 q.1)⟩
    · exact kd pl 0 plc (fun b q => a2.ne (a4 th b (inA b q)).2 (by decide)) q1
    · rw [e] at b1
      have nd := a5 th; rw [e] at nd
      have cn : c ∉ A ++ B := by rw [← e]; exact hf th
      have sn := lk_put (nx := fun d => gP σ d 1) (nx' := fun d => gP σ' d 1) (c := c) b1 nd cn k8 k10 (fun x hx hl => k7 x 1 (fun q => cn (q.1 ▸ hx)) (fun q => (ht.ne (a4 th x (by rw [e]; exact hx)).2 (by decide)) q.2.1.symm) (fun q => hl q.1))
      refine ⟨?_, ?_, ?_⟩
      · by_cases hA : A = []
        · rw [if_pos hA] at sn; rw [k9 hA]; exact sn
        · rw [if_neg hA] at sn
          rw [k7 th 0 (fun q => thc q.1) (fun q => hA q.1) (fun q => absurd q.2 (by decide))]
          exact sn
      · rw [k7 th 1 (fun q => thc q.1) (fun q => absurd q.2.2 (by decide)) (fun q => (ht.ne (a4 th th (inA th q.1)).2 (by decide)) rfl), b2, e]
        rw [List.getLast?_append, List.getLast?_append, List.getLast?_cons]
        cases hB2 : B.getLast? with
        | none => exact absurd (List.getLast?_eq_none_iff.mp hB2) hB
        | some d => rfl
      · rw [k6, b3, e]; simp; omega
    · rcases List.mem_append.mp hd with q | q
      · have : d ∈ LL th := by rw [e]; exact List.mem_append_left _ q
        rw [up1_n _ _ (fun w : d = c => hf th (w ▸ this))]; exact a4 th d this
      · rcases List.mem_cons.mp q with q | q
        · rw [q, up1_s]; exact ⟨rfl, hc⟩
        · have : d ∈ LL th := by rw [e]; exact List.mem_append_right _ q
          rw [up1_n _ _ (fun w : d = c => hf th (w ▸ this))]; exact a4 th d this
    · rcases List.mem_append.mp hd with q | q
      · have : d ∈ LL th := by rw [e]; exact List.mem_append_left _ q
        rw [up1_n _ _ (fun w : d = c => hf th (w ▸ this))]; exact a4 th d this
      · rcases List.mem_cons.mp q with q | q
        · rw [q, up1_s]; exact ⟨rfl, hc⟩
        · have : d ∈ LL th := by rw [e]; exact List.mem_append_right _ q
          rw [up1_n _ _ (fun w : d = c => hf th (w ▸ this))]; exact a4 th d this
    · rw [up1_n _ _ (fun q : d = c => hf x (q ▸ hd))]; exact (a4 x d hd).1
    · have nd := a5 th; rw [e] at nd
      have cn : c ∉ A ++ B := by rw [← e]; exact hf th
      obtain ⟨n1, n2, n3⟩ := List.nodup_append.mp nd
      exact List.nodup_append.mpr ⟨n1, List.nodup_cons.mpr ⟨fun q => cn (List.mem_append_right _ q), n2⟩, fun x hx y hy q => by
        rcases List.mem_cons.mp hy with w | w
        · exact cn (List.mem_append_left _ (by rw [← w, ← q]; exact hx))
        · exact n3 x hx y w q⟩
    · have nd := a5 th; rw [e] at nd
      have cn : c ∉ A ++ B := by rw [← e]; exact hf th
      obtain ⟨n1, n2, n3⟩ := List.nodup_append.mp nd
      exact List.nodup_append.mpr ⟨n1, List.nodup_cons.mpr ⟨fun q => cn (List.mem_append_right _ q), n2⟩, fun x hx y hy q => by
        rcases List.mem_cons.mp hy with w | w
        · exact cn (List.mem_append_left _ (by rw [← w, ← q]; exact hx))
        · exact n3 x hx y w q⟩
    · exact k7 d 0 (fun q => absurd q.2 (by decide)) (fun q => (ht.ne hd (by decide)) q.2.1.symm) (fun q => absurd q.2 (by decide))
  have eq9 : up1 (up1 LL th (A ++ c :: B)) th (A ++ c :: B) = up1 LL th (A ++ c :: B) := by
    funext x; unfold up1; split <;> rfl
  rw [eq9] at hp; exact hp
/-- a cell in hand comes to its place in a chain -/
theorem i_insert {v2 v3 : Int} {Q : Sg → Unit → Prop} {X : Sg → String → Prop} (h : IV σ pl gq ci gr nc ot LL N nu) (ht : kO σ th 1) (hc : kO σ c 0) (hf : ∀ x, c ∉ LL x) (h1 : 1 ≤ N 1) (hP : PlC σ gq ci ot th) (h50 : gq th = 50 → (LL th).length < 8) (h13 : gq th = 13 → (0 ≤ gI σ c 3 ∧ gI σ c 3 < (nu 16 : Int)))
    (hC : ∀ N', NF [gq th, 1] N N' → N' (gq th) = N (gq th) + 1 → SC σ gq N')
    (hQ : ∀ σ' N' A B, LL th = A ++ B → IV σ' pl gq ci gr nc ot (up1 LL th (A ++ c :: B)) N' nu → Fx CH gr σ σ' → NF [gq th, 1] N N' → N' (gq th) = N (gq th) + 1 → N' 1 + 1 = N 1 → Q σ' ()) : wp_X1_insert th (some c) v2 v3 σ Q X := by
  obtain ⟨own, hp⟩ := h.hp
  obtain ⟨a1, ⟨a2, a3⟩, a4, a5, a6, a7⟩ := id hp
  obtain ⟨b1, b2, b3⟩ := a1 th ht
  have thc : th ≠ c := ht.ne hc (by decide)
  have sz := h.sz ht.1
  have hg := gl11 _ hP.1
  have add : w_X1_insert_20 th Q X σ (some c) := by
    unfold w_X1_insert_20
    exact i_add h ht hc hf h1 hP h50 h13 hC (fun σ' N' i f n1 n2 n3 _ => hQ σ' N' (LL th) [] (by simp) i f n1 n2 n3)
  -- at its place
  have fin : ∀ (A B : List Nat), LL th = A ++ B → B ≠ [] → ∀ σ5 : Sg, σ5.1 = σ.1 → gk σ5 = gk σ → gn σ5 = gn σ → gJ σ5 = gJ σ → gI σ5 = gI σ → (∀ a k, ¬ (a = c ∧ k = 1) → ¬ (A = [] ∧ a = th ∧ k = 0) → ¬ (A.getLast? = some a ∧ k = 1) → gP σ5 a k = gP σ a k) → gP σ5 c 1 = B.head? → (A = [] → gP σ5 th 0 = some c) → (∀ b, A.getLast? = some b → gP σ5 b 1 = some c) → w_X1_insert_101 th Q X σ5 := by
    intro A B e hB σ5 k1 k2 k3 k4 k5 k7 k8 k9 k10
    unfold w_X1_insert_101
    refine ⟨by rw [k5, b3]; unfold rng; omega, ?_⟩
    intro σ6 e6
    have hI : ∀ a k, ¬ (a = th ∧ k = 2) → gI σ6 a k = gI σ a k := fun a k q => by rw [e6, gI_pI, up2_n _ _ q, k5]
    have hI2 : gI σ6 th 2 = gI σ th 2 + 1 := by rw [e6, gI_pI, up2_s, k5]
    have hPe : gP σ6 = gP σ5 := by rw [e6]
    have hp' := hp_ins (σ' := σ6) hp ht hc hf e hB (by rw [e6]; exact k1) (by rw [e6]; exact k2) (by rw [e6]; exact k3) hI hI2 (by rw [hPe]; exact k7) (by rw [hPe]; exact k8) (by rw [hPe]; exact k9) (by rw [hPe]; exact k10)
    have lst0 : ∀ b, A.getLast? = some b → kO σ b 0 := fun b q => (a4 th b (by rw [e]; exact List.mem_append_left _ (List.mem_of_getLast? q))).2
    have fr : FrH pl σ σ6 := ⟨by rw [e6]; exact k1, by rw [e6]; exact k2, by rw [e6]; exact k3, fun a k _ q => hI a k (fun w => q (w.1 ▸ ht)), fun a k _ => by rw [e6]; exact congrFun (congrFun k4 a) k, fun a k q1 q2 _ => by rw [hPe]; exact k7 a k (fun w => q1 ⟨w.1 ▸ hc, w.2⟩) (fun w => q2 (w.2.1 ▸ ht)) (fun w => q1 ⟨lst0 a w.1, w.2⟩)⟩
    have hR : RG σ6 := fun a k => by
      by_cases q : a = th ∧ k = 2
      · obtain ⟨q1, q2⟩ := q; subst q1 q2
        rw [hI2, b3]; unfold rng; omega
      · rw [hI a k q]; exact h.2.2.2.2.2.2.1.1 a k
    have hN : NF [gq th, 1] N (up1 (up1 N (gq th) (N (gq th) + 1)) 1 (N 1 - 1)) := fun g hgg => by
      simp only [List.mem_cons, List.mem_nil_iff, or_false, not_or] at hgg
      rw [up1_n _ _ hgg.2, up1_n _ _ hgg.1]
    have e1 : up1 (up1 N (gq th) (N (gq th) + 1)) 1 (N 1 - 1) (gq th) = N (gq th) + 1 := by rw [up1_n _ _ (by omega), up1_s]
    have e2 : up1 (up1 N (gq th) (N (gq th) + 1)) 1 (N 1 - 1) 1 = N 1 - 1 := up1_s _ _ _
    have ln : (LL th).length + 1 = (A ++ c :: B).length := by rw [e]; simp; omega
    have := h.ch1 ht hp' fr (fun a k q => hI a k (fun w => q w.1)) (by rw [e6]; exact k4) hR hg (fun g q1 q2 => hN g (by simp only [List.mem_cons, List.mem_nil_iff, or_false, not_or]; exact ⟨q1, q2⟩)) (by rw [e1]; omega) (by rw [e2]; omega) (hC _ hN e1) (fun q => by have := h50 q; omega) (fun _ => hP) (fun q d hd => by
      rcases List.mem_append.mp hd with k | k
      · exact h.ss.2.2.2.2.2.2.1 th ht q d (by rw [e]; exact List.mem_append_left _ k)
      · rcases List.mem_cons.mp k with k | k
        · rw [k]; exact h13 q
        · exact h.ss.2.2.2.2.2.2.1 th ht q d (by rw [e]; exact List.mem_append_right _ k))
    exact hQ σ6 _ A B e this.1 this.2 hN e1 (by rw [e2]; omega)
  have put : ∀ (A B : List Nat), LL th = A ++ B → B ≠ [] → w_X1_insert_65 th Q X σ (some c) A.getLast? := by
    intro A B e hB
    unfold w_X1_insert_65
    cases hl : A.getLast? with
    | none =>
      have e0 : A = [] := List.getLast?_eq_none_iff.mp hl
      rw [if_neg (by simp)]
      unfold w_X1_insert_70
      refine ⟨c, rfl, fun _ => ?_⟩
      intro σ25 e25 σ26 e26
      subst e25 e26
      have f0 := h.first ht
      refine fin A B e hB _ rfl rfl rfl rfl rfl (fun a k q1 q2 q3 => ?_) ?_ (fun _ => ?_) (fun b q => ?_)
      · show up2 (gP _) th 0 (some c) a k = _
        rw [up2_n _ _ (fun w => q2 ⟨e0, w.1, w.2⟩), gP_pP, up2_n _ _ q1]
      · show up2 (gP _) th 0 (some c) c 1 = _
        rw [up2_n _ _ (fun w => thc w.1.symm), gP_pP, up2_s, f0, e, e0]; rfl
      · show up2 (gP _) th 0 (some c) th 0 = some c
        exact up2_s _ _ _ _
      · rw [hl] at q; cases q
    | some b =>
      rw [if_pos (by simp)]
      unfold w_X1_insert_86
      refine ⟨b, rfl, fun _ => ⟨c, rfl, fun _ => ?_⟩⟩
      intro σ30 e30 σ31 e31
      subst e30 e31
      obtain ⟨A0, eA⟩ := List.getLast?_eq_some_iff.mp hl
      have eB : LL th = A0 ++ b :: B := by rw [e, eA]; simp
      have nb := h.next ht eB
      have bc : b ≠ c := fun q => hf th (by rw [eB, q]; exact List.mem_append_right _ List.mem_cons_self)
      have nA : A ≠ [] := fun q => by rw [q] at hl; cases hl
      refine fin A B e hB _ rfl rfl rfl rfl rfl (fun a k q1 q2 q3 => ?_) ?_ (fun q => absurd q nA) (fun d q => ?_)
      · show up2 (gP _) b 1 (some c) a k = _
        rw [up2_n _ _ (fun w => q3 ⟨by rw [hl, w.1], w.2⟩), gP_pP, up2_n _ _ q1]
      · show up2 (gP _) b 1 (some c) c 1 = _
        rw [up2_n _ _ (fun w => bc w.1.symm), gP_pP, up2_s, nb]
      · rw [hl] at q; cases q
        show up2 (gP _) b 1 (some c) b 1 = some c
        exact up2_s _ _ _ _
  unfold wp_X1_insert w_X1_insert_0
  by_cases hL : LL th = []
  · rw [if_pos (by rw [b2, hL]; rfl)]; exact add
  · obtain ⟨l, hl⟩ : ∃ l, (LL th).getLast? = some l := by
      cases q : (LL th).getLast? with
      | none => exact absurd (List.getLast?_eq_none_iff.mp q) hL
      | some a => exact ⟨a, rfl⟩
    have kl : kO σ l 0 := (a4 th l (List.mem_of_getLast? hl)).2
    rw [if_neg (by rw [b2, hl]; simp)]
    unfold w_X1_insert_7
    rw [b2, hl]
    obtain ⟨r, hr, hk⟩ := dt_compare h kl hc v2 v3
    refine hk _ _ (fun _ => ?_)
    by_cases hr0 : r > 0
    · rw [if_pos hr0]
      unfold w_X1_insert_26
      have loop : ∀ (B A : List Nat), LL th = A ++ B → B ≠ [] → wl_X1_insert_35 th Q X (B.length + 1) σ (some c) v2 v3 A.getLast? B.head? := by
        intro B
        induction B with
        | nil => intro A _ q; exact absurd rfl q
        | cons d T ih =>
          intro A e _
          show w_X1_insert_35 th _ Q X σ (some c) v2 v3 A.getLast? (some d)
          have kd : kO σ d 0 := (a4 th d (by rw [e]; exact List.mem_append_right _ List.mem_cons_self)).2
          unfold w_X1_insert_35
          rw [if_neg (by simp)]
          unfold w_X1_insert_40
          by_cases hT : T = []
          · have dl : d = l := by
              rw [e, hT] at hl; rw [List.getLast?_append] at hl
              exact Option.some.inj hl
            subst dl
            refine hk _ _ (fun _ => ?_)
            rw [if_pos hr0]
            exact put A (d :: T) e (by simp)
          · obtain ⟨r', hr', hk'⟩ := dt_compare h kd hc v2 v3
            refine hk' _ _ (fun _ => ?_)
            by_cases hr1 : r' > 0
            · rw [if_pos hr1]; exact put A (d :: T) e (by simp)
            · rw [if_neg hr1]
              unfold w_X1_insert_51
              refine ⟨d, rfl, fun _ => ?_⟩
              have e2 : LL th = (A ++ [d]) ++ T := by rw [e]; simp
              have := ih (A ++ [d]) e2 hT
              rw [h.next ht e]
              have gl : (A ++ [d]).getLast? = some d := by simp
              rw [gl] at this
              exact this
      rw [h.first ht]
      exact ⟨_, loop (LL th) [] (by simp) hL⟩
    · rw [if_neg hr0]; exact add
end INS

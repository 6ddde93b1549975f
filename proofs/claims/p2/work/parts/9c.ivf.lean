section IVE
variable {σ σ' : Sg} {gq ci gr nc N N' nu : Nat → Nat} {ot : Nat → Nat → Int} {LL LL' : Nat → List Nat} {pl th c : Nat}
/-- a cell in hand goes back to the pool -/
theorem i_release {Q : Sg → Unit → Prop} {X : Sg → String → Prop} (h : IV σ pl gq ci gr nc ot LL N nu) (hc : kO σ c 0) (hf : ∀ x, c ∉ LL x) (h1 : 1 ≤ N 1)
    (hQ : ∀ σ' N', IV σ' pl gq ci gr nc ot (up1 LL pl (c :: LL pl)) N' nu → Fx CH gr σ σ' → NF [0, 1] N N' → N' 0 = N 0 + 1 → N' 1 + 1 = N 1 → Q σ' ()) : wp_X8_release pl (some c) σ Q X := by
  obtain ⟨own, hp⟩ := h.hp
  have ss := h.ss
  have kp := h.kpl
  refine s_X8_release hp hc hf (fun σ' hp' fr hI hJ => ?_)
  have hN : NF [0, 1] N (up1 (up1 N 0 (N 0 + 1)) 1 (N 1 - 1)) := fun g hgg => by
    simp only [List.mem_cons, List.mem_nil_iff, or_false, not_or] at hgg
    rw [up1_n _ _ hgg.2, up1_n _ _ hgg.1]
  have e1 : up1 (up1 N 0 (N 0 + 1)) 1 (N 1 - 1) 0 = N 0 + 1 := by rw [up1_n _ _ (by omega), up1_s]
  have e2 : up1 (up1 N 0 (N 0 + 1)) 1 (N 1 - 1) 1 = N 1 - 1 := up1_s _ _ _
  have e3 : up1 (up1 N 0 (N 0 + 1)) 1 (N 1 - 1) 2 = N 2 := by rw [up1_n _ _ (by omega), up1_n _ _ (by omega)]
  have npl : ∀ x, kO σ x 1 → x ≠ pl := fun x hx => hx.ne kp (by decide)
  have := h.ch (N' := up1 (up1 N 0 (N 0 + 1)) 1 (N 1 - 1)) hp' fr (fun a k _ => by rw [hI]) hJ (by unfold RG; rw [hI]; exact h.2.2.2.2.2.2.1.1) (h.2.2.1.made (Or.inr (Or.inr (Or.inr (Or.inr rfl)))) hN) (fun g hgg => ?_) (fun x hx hq => by rw [up1_n _ _ (npl x hx)]; exact ss.2.2.2.1 x hx hq) (fun x hx hL => by rw [up1_n _ _ (npl x hx)] at hL; exact ss.2.2.2.2.2.1 x hx hL) (fun x hx hq => by rw [up1_n _ _ (npl x hx)]; exact ss.2.2.2.2.2.2.1 x hx hq) e3 (hN 3 (by decide)) ?_
  · exact hQ σ' _ this.1 this.2 hN e1 (by rw [e2]; omega)
  · have e := ns_up (gq := gq) (LL := LL) (L := c :: LL pl) ss.1 kp.1 g
    rw [ss.2.1] at e
    by_cases q : g = 0
    · subst q
      rw [if_pos rfl, if_pos rfl, ← ss.2.2.1 _ hgg, List.length_cons] at e
      rw [e1]; omega
    · rw [if_neg (fun e => q e.symm), if_neg (fun e => q e.symm), ← ss.2.2.1 _ hgg] at e
      rw [hN g (by simp only [List.mem_cons, List.mem_nil_iff, or_false, not_or]; omega)]; omega
  · have e := nt_up (LL := LL) (L := c :: LL pl) ss.1 kp.1
    have := ss.2.2.2.2.2.2.2
    rw [List.length_cons] at e
    rw [e3, e2]; omega
/-- all cells of a chain go back to the pool -/
theorem i_releaseAll {Q : Sg → Unit → Prop} {X : Sg → String → Prop} (h : IV σ pl gq ci gr nc ot LL N nu) (ht : kO σ th 1) (hg : 11 ≤ gq th)
    (hQ : ∀ σ' N', IV σ' pl gq ci gr nc ot (up1 (up1 LL th []) pl (LL th ++ LL pl)) N' nu → Fx CH gr σ σ' → NF [gq th, 0] N N' → N' (gq th) + (LL th).length = N (gq th) → N' 0 = N 0 + (LL th).length → Q σ' ()) : wp_X8_releaseAll pl (some th) σ Q X := by
  obtain ⟨own, hp⟩ := h.hp
  have ss := h.ss
  have kp := h.kpl
  have le := h.le ht.1 (Or.inr hg)
  have npl : ∀ x, kO σ x 1 → x ≠ pl := fun x hx => hx.ne kp (by decide)
  refine s_X8_releaseAll hp ht h.2.2.2.2.2.2.1.1 (fun σ' hp' fr hR hJ hI => ?_)
  have hN : NF [gq th, 0] N (up1 (up1 N (gq th) (N (gq th) - (LL th).length)) 0 (N 0 + (LL th).length)) := fun g hgg => by
    simp only [List.mem_cons, List.mem_nil_iff, or_false, not_or] at hgg
    rw [up1_n _ _ hgg.2, up1_n _ _ hgg.1]
  have e1 : up1 (up1 N (gq th) (N (gq th) - (LL th).length)) 0 (N 0 + (LL th).length) (gq th) = N (gq th) - (LL th).length := by rw [up1_n _ _ (by omega), up1_s]
  have e2 : up1 (up1 N (gq th) (N (gq th) - (LL th).length)) 0 (N 0 + (LL th).length) 0 = N 0 + (LL th).length := up1_s _ _ _
  have e3 : ∀ g, g ≠ gq th → g ≠ 0 → up1 (up1 N (gq th) (N (gq th) - (LL th).length)) 0 (N 0 + (LL th).length) g = N g := fun g q1 q2 => by rw [up1_n _ _ q2, up1_n _ _ q1]
  have ev : ∀ x, kO σ x 1 → up1 (up1 LL th []) pl (LL th ++ LL pl) x = if x = th then [] else LL x := fun x hx => by
    rw [up1_n _ _ (npl x hx)]
    by_cases q : x = th
    · subst q; rw [up1_s, if_pos rfl]
    · rw [up1_n _ _ q, if_neg q]
  have := h.ch (N' := up1 (up1 N (gq th) (N (gq th) - (LL th).length)) 0 (N 0 + (LL th).length)) hp' fr (fun a k q => hI a k (fun e => q (e ▸ ht))) hJ hR (h.2.2.1.less (fun g hg1 => ?_) (e3 5 (by omega) (by omega))) (fun g hgg => ?_) (fun x hx hq => ?_) (fun x hx hL => ?_) (fun x hx hq d hd => ?_) (e3 2 (by omega) (by omega)) (e3 3 (by omega) (by omega)) ?_
  · exact hQ σ' _ this.1 this.2 hN (by rw [e1]; omega) e2
  · by_cases q : g = gq th
    · subst q; rw [e1]; omega
    · rw [e3 g q (by omega)]; omega
  · have a1 := ns_up (gq := gq) (LL := LL) (L := []) ss.1 ht.1 g
    have a2 := ns_up (gq := gq) (LL := up1 LL th []) (L := LL th ++ LL pl) ss.1 kp.1 g
    rw [ss.2.1, up1_n _ _ (fun e => npl th ht e.symm), List.length_append] at a2
    rw [List.length_nil] at a1
    by_cases q : g = gq th
    · subst q
      rw [if_pos rfl, if_pos rfl, ← ss.2.2.1 _ hgg] at a1
      rw [if_neg (by omega), if_neg (by omega)] at a2
      rw [e1]; omega
    · rw [if_neg (fun e => q e.symm), if_neg (fun e => q e.symm), ← ss.2.2.1 _ hgg] at a1
      by_cases q0 : g = 0
      · subst q0
        rw [if_pos rfl, if_pos rfl] at a2
        rw [e2]; omega
      · rw [if_neg (fun e => q0 e.symm), if_neg (fun e => q0 e.symm)] at a2
        rw [e3 g q q0]; omega
  · rw [ev x hx]; split
    · simp
    · exact ss.2.2.2.1 x hx hq
  · rw [ev x hx] at hL
    split at hL
    · exact absurd rfl hL
    · exact ss.2.2.2.2.2.1 x hx hL
  · rw [ev x hx] at hd
    split at hd
    · exact absurd hd (by simp)
    · exact ss.2.2.2.2.2.2.1 x hx hq d hd
  · have a1 := nt_up (LL := LL) (L := []) ss.1 ht.1
    have a2 := nt_up (LL := up1 LL th []) (L := LL th ++ LL pl) ss.1 kp.1
    rw [up1_n _ _ (fun e => npl th ht e.symm), List.length_append] at a2
    rw [List.length_nil] at a1
    have := ss.2.2.2.2.2.2.2
    rw [e3 2 (by omega) (by omega), e3 1 (by omega) (by omega)]; omega
/-- what one chain loses comes to hand -/
theorem i_cut {L : List Nat} {own' : Nat → Nat} (h : IV σ pl gq ci gr nc ot LL N nu) (ht : kO σ th 1) (hp : HP σ' pl (up1 LL th L) own') (fr : FrH pl σ σ') (hI : ∀ a k, a ≠ th → gI σ' a k = gI σ a k) (hJ : gJ σ' = gJ σ) (hR : RG σ') (hl : (LL th).length = L.length + 1) (hs : ∀ d ∈ L, d ∈ LL th) :
    ∃ N', IV σ' pl gq ci gr nc ot (up1 LL th L) N' nu ∧ Fx CH gr σ σ' ∧ NF [gq th, 1] N N' ∧ N' (gq th) + 1 = N (gq th) ∧ N' 1 = N 1 + 1 := by
  have ne : LL th ≠ [] := fun e => by rw [e] at hl; simp at hl
  have hg : gq th = 0 ∨ 11 ≤ gq th := h.g11 ne
  have hP := h.ss.2.2.2.2.2.1 th ht ne
  have le := h.le ht.1 hg
  have hN : NF [gq th, 1] N (up1 (up1 N (gq th) (N (gq th) - 1)) 1 (N 1 + 1)) := fun g hgg => by
    simp only [List.mem_cons, List.mem_nil_iff, or_false, not_or] at hgg
    rw [up1_n _ _ hgg.2, up1_n _ _ hgg.1]
  have e1 : up1 (up1 N (gq th) (N (gq th) - 1)) 1 (N 1 + 1) (gq th) = N (gq th) - 1 := by rw [up1_n _ _ (by omega), up1_s]
  have e2 : up1 (up1 N (gq th) (N (gq th) - 1)) 1 (N 1 + 1) 1 = N 1 + 1 := up1_s _ _ _
  have := h.ch1 ht hp fr hI hJ hR hg (fun g q1 q2 => hN g (by simp only [List.mem_cons, List.mem_nil_iff, or_false, not_or]; exact ⟨q1, q2⟩)) (by rw [e1]; omega) (by rw [e2]; omega) (h.2.2.1.less (fun g hg1 => by
    by_cases q : g = gq th
    · subst q; rw [e1]; omega
    · rw [hN g (by simp only [List.mem_cons, List.mem_nil_iff, or_false, not_or]; exact ⟨q, by omega⟩)]; omega) (hN 5 (by simp only [List.mem_cons, List.mem_nil_iff, or_false, not_or]; omega))) (fun q => by have := h.ss.2.2.2.1 th ht q; omega) (fun _ => hP) (fun q d hd => h.ss.2.2.2.2.2.2.1 th ht q d (hs d hd))
  exact ⟨_, this.1, this.2, hN, by rw [e1]; omega, e2⟩
theorem i_takeFirst {Q : Sg → Option Nat → Prop} {X : Sg → String → Prop} (h : IV σ pl gq ci gr nc ot LL N nu) (ht : kO σ th 1) (h0 : LL th = [] → Q σ none)
    (hQ : ∀ c T, LL th = c :: T → ∀ σ' N', IV σ' pl gq ci gr nc ot (up1 LL th T) N' nu → Fx CH gr σ σ' → NF [gq th, 1] N N' → N' (gq th) + 1 = N (gq th) → N' 1 = N 1 + 1 → kO σ c 0 → (∀ x, c ∉ up1 LL th T x) → Q σ' (some c)) : wp_X1_takeFirst th σ Q X := by
  obtain ⟨own, hp⟩ := h.hp
  refine s_X1_takeFirst hp ht h.2.2.2.2.2.2.1.1 h0 (fun c T e σ' hp' fr hR hJ hI _ => ?_)
  obtain ⟨N', i1, i2, i3, i4, i5⟩ := i_cut h ht hp' fr hI hJ hR (by rw [e]; simp) (fun d hd => by rw [e]; exact List.mem_cons_of_mem _ hd)
  have cin : c ∈ LL th := by rw [e]; exact List.mem_cons_self
  refine hQ c T e σ' N' i1 i2 i3 i4 i5 (hp.2.2.1 th c cin).2 (fun x hx => ?_)
  by_cases q : x = th
  · subst q; rw [up1_s] at hx
    have := hp.2.2.2.1 x; rw [e] at this
    exact (List.nodup_cons.mp this).1 hx
  · rw [up1_n _ _ q] at hx
    exact q ((hp.2.2.1 x c hx).1.symm.trans (hp.2.2.1 th c cin).1)
theorem i_cutBehind {Q : Sg → Option Nat → Prop} {X : Sg → String → Prop} {L M : List Nat} {v : Option Nat} (h : IV σ pl gq ci gr nc ot LL N nu) (ht : kO σ th 1) (hL : LL th = L ++ M) (hv : v = L.getLast?) (h0 : M = [] → Q σ none)
    (hQ : ∀ c T, M = c :: T → ∀ σ' N', IV σ' pl gq ci gr nc ot (up1 LL th (L ++ T)) N' nu → Fx CH gr σ σ' → NF [gq th, 1] N N' → N' (gq th) + 1 = N (gq th) → N' 1 = N 1 + 1 → kO σ c 0 → (∀ x, c ∉ up1 LL th (L ++ T) x) → Q σ' (some c)) : wp_X1_cutBehind th v σ Q X := by
  obtain ⟨own, hp⟩ := h.hp
  have fin : ∀ c T, M = c :: T → ∀ σ' own', HP σ' pl (up1 LL th (L ++ T)) own' → FrH pl σ σ' → RG σ' → gJ σ' = gJ σ → (∀ a k, a ≠ th → gI σ' a k = gI σ a k) → Q σ' (some c) := by
    intro c T e σ' own' hp' fr hR hJ hI
    rw [e] at hL
    obtain ⟨N', i1, i2, i3, i4, i5⟩ := i_cut h ht hp' fr hI hJ hR (by rw [hL]; simp; omega) (fun d hd => by
      rw [hL]; rcases List.mem_append.mp hd with q | q
      · exact List.mem_append_left _ q
      · exact List.mem_append_right _ (List.mem_cons_of_mem _ q))
    have cin : c ∈ LL th := by rw [hL]; exact List.mem_append_right _ List.mem_cons_self
    refine hQ c T e σ' N' i1 i2 i3 i4 i5 (hp.2.2.1 th c cin).2 (fun x hx => ?_)
    by_cases q : x = th
    · subst q; rw [up1_s] at hx
      have nd := hp.2.2.2.1 x; rw [hL] at nd
      obtain ⟨n1, n2, n3⟩ := List.nodup_append.mp nd
      rcases List.mem_append.mp hx with k | k
      · exact n3 c k c List.mem_cons_self rfl
      · exact (List.nodup_cons.mp n2).1 k
    · rw [up1_n _ _ q] at hx
      exact q ((hp.2.2.1 x c hx).1.symm.trans (hp.2.2.1 th c cin).1)
  cases hl : L.getLast? with
  | none =>
    have e0 : L = [] := List.getLast?_eq_none_iff.mp hl
    rw [hl] at hv; subst hv
    subst e0
    exact s_X1_cutFirst hp ht h.2.2.2.2.2.2.1.1 (fun q => h0 (by rw [List.nil_append] at hL; rw [← hL]; exact q)) (fun c T e σ' hp' fr hR hJ hI _ => fin c T (by rw [List.nil_append] at hL; rw [← hL]; exact e) σ' own hp' fr hR hJ hI)
  | some b =>
    rw [hl] at hv; subst hv
    obtain ⟨L0, e0⟩ := List.getLast?_eq_some_iff.mp hl
    have e1 : LL th = L0 ++ b :: M := by rw [hL, e0]; simp
    refine s_X1_cutBehind hp ht h.2.2.2.2.2.2.1.1 e1 h0 (fun c T e σ' hp' fr hR hJ hI _ => ?_)
    have e2 : L0 ++ b :: T = L ++ T := by rw [e0]; simp
    rw [e2] at hp'
    exact fin c T e σ' own hp' fr hR hJ hI
end IVE

section IVD
variable {σ σ' : Sg} {gq ci gr nc N N' nu : Nat → Nat} {ot : Nat → Nat → Int} {LL LL' : Nat → List Nat} {pl th c : Nat}
theorem IV.ss (h : IV σ pl gq ci gr nc ot LL N nu) : SS σ pl gq ci ot LL N nu := h.2.2.2.1
theorem IV.nd (h : IV σ pl gq ci gr nc ot LL N nu) : (gD σ).Nodup := h.ss.1
theorem IV.n2 (h : IV σ pl gq ci gr nc ot LL N nu) : N 2 ≤ 80000 := h.2.2.2.2.2.1.2.2.1.2.2.2.2.2.2
theorem IV.sz (h : IV σ pl gq ci gr nc ot LL N nu) {x : Nat} (hx : x ∈ gD σ) : (LL x).length ≤ 80000 := by
  have h1 := h.ss.2.2.2.2.2.2.2
  have h2 := h.n2
  have h3 := map_sum_mem (f := fun x => (LL x).length) hx
  unfold nt at h1
  omega
theorem IV.inD (h : IV σ pl gq ci gr nc ot LL N nu) {x : Nat} (hx : LL x ≠ []) : x ∈ gD σ := by
  obtain ⟨own, hp⟩ := h.hp
  rcases hp.2.2.2.2.1 x hx with e | e
  · rw [e]; exact h.kpl.1
  · exact e.1
theorem IV.g11 (h : IV σ pl gq ci gr nc ot LL N nu) {x : Nat} (hx : LL x ≠ []) : gq x = 0 ∨ 11 ≤ gq x := by
  obtain ⟨own, hp⟩ := h.hp
  rcases hp.2.2.2.2.1 x hx with e | e
  · rw [e]; exact Or.inl h.ss.2.1
  · exact gl11 _ (h.ss.2.2.2.2.2.1 x e hx).1
theorem IV.le (h : IV σ pl gq ci gr nc ot LL N nu) {x : Nat} (hx : x ∈ gD σ) (hg : gq x = 0 ∨ 11 ≤ gq x) : (LL x).length ≤ N (gq x) := by
  rw [h.ss.2.2.1 _ hg]; exact ns_mem hx
/-- one chain has changed -/
theorem IV.ch1 {own' : Nat → Nat} {L : List Nat} (h : IV σ pl gq ci gr nc ot LL N nu) (ht : kO σ th 1) (hp : HP σ' pl (up1 LL th L) own') (fr : FrH pl σ σ') (hI : ∀ a k, a ≠ th → gI σ' a k = gI σ a k) (hJ : gJ σ' = gJ σ) (hR : RG σ')
    (hg : gq th = 0 ∨ 11 ≤ gq th) (hN : ∀ g, g ≠ gq th → g ≠ 1 → N' g = N g) (hN1 : N' (gq th) + (LL th).length = N (gq th) + L.length) (hN2 : N' 1 + L.length = N 1 + (LL th).length) (hC : SC σ gq N')
    (h50 : gq th = 50 → L.length ≤ 8) (hP : L ≠ [] → PlC σ gq ci ot th) (h13 : gq th = 13 → ∀ d ∈ L, (0 ≤ gI σ d 3 ∧ gI σ d 3 < (nu 16 : Int))) : IV σ' pl gq ci gr nc ot (up1 LL th L) N' nu ∧ Fx CH gr σ σ' := by
  have ss := h.ss
  have g2 : N' 2 = N 2 := hN 2 (by omega) (by omega)
  refine h.ch hp fr (fun a k q => hI a k (fun e => q (e ▸ ht))) hJ hR hC (fun g hgg => ?_) (fun x hx hq => ?_) (fun x hx hL => ?_) (fun x hx hq => ?_) g2 (hN 3 (by omega) (by omega)) ?_
  · have e := ns_up (gq := gq) (LL := LL) (L := L) ss.1 ht.1 g
    by_cases q : g = gq th
    · subst q
      rw [if_pos rfl, if_pos rfl, ← ss.2.2.1 _ hgg] at e
      omega
    · rw [if_neg (fun e => q e.symm), if_neg (fun e => q e.symm), ← ss.2.2.1 _ hgg] at e
      rw [hN g q (by omega)]; omega
  · by_cases q : x = th
    · subst q; rw [up1_s]; exact h50 hq
    · rw [up1_n _ _ q]; exact ss.2.2.2.1 x hx hq
  · by_cases q : x = th
    · subst q; rw [up1_s] at hL; exact hP hL
    · rw [up1_n _ _ q] at hL; exact ss.2.2.2.2.2.1 x hx hL
  · by_cases q : x = th
    · subst q; rw [up1_s]; exact h13 hq
    · rw [up1_n _ _ q]; exact ss.2.2.2.2.2.2.1 x hx hq
  · have e := nt_up (LL := LL) (L := L) ss.1 ht.1
    have := ss.2.2.2.2.2.2.2
    omega
/-- what is as it was: all groups but g, and what is in hand -/
abbrev NF (G : List Nat) (N N' : Nat → Nat) : Prop := ∀ g, g ∉ G → N' g = N g
/-- a cell in hand comes to the end of a chain -/
theorem i_add {Q : Sg → Unit → Prop} {X : Sg → String → Prop} (h : IV σ pl gq ci gr nc ot LL N nu) (ht : kO σ th 1) (hc : kO σ c 0) (hf : ∀ x, c ∉ LL x) (h1 : 1 ≤ N 1) (hP : PlC σ gq ci ot th) (h50 : gq th = 50 → (LL th).length < 8) (h13 : gq th = 13 → (0 ≤ gI σ c 3 ∧ gI σ c 3 < (nu 16 : Int)))
    (hC : ∀ N', NF [gq th, 1] N N' → N' (gq th) = N (gq th) + 1 → SC σ gq N')
    (hQ : ∀ σ' N', IV σ' pl gq ci gr nc ot (up1 LL th (LL th ++ [c])) N' nu → Fx CH gr σ σ' → NF [gq th, 1] N N' → N' (gq th) = N (gq th) + 1 → N' 1 + 1 = N 1 → Q σ' ()) : wp_X1_add th (some c) σ Q X := by
  obtain ⟨own, hp⟩ := h.hp
  have hg := gl11 _ hP.1
  have sz := h.sz ht.1
  refine s_X1_add hp ht hc hf h.2.2.2.2.2.2.1.1 (by omega) (fun σ' hp' fr hR hJ hI => ?_)
  have hN : NF [gq th, 1] N (up1 (up1 N (gq th) (N (gq th) + 1)) 1 (N 1 - 1)) := fun g hgg => by
    simp only [List.mem_cons, List.mem_nil_iff, or_false, not_or] at hgg
    rw [up1_n _ _ hgg.2, up1_n _ _ hgg.1]
  have e1 : up1 (up1 N (gq th) (N (gq th) + 1)) 1 (N 1 - 1) (gq th) = N (gq th) + 1 := by rw [up1_n _ _ (by omega), up1_s]
  have e2 : up1 (up1 N (gq th) (N (gq th) + 1)) 1 (N 1 - 1) 1 = N 1 - 1 := up1_s _ _ _
  have := h.ch1 ht hp' fr hI hJ hR hg (fun g q1 q2 => hN g (by simp only [List.mem_cons, List.mem_nil_iff, or_false, not_or]; exact ⟨q1, q2⟩)) (by rw [e1, List.length_append, List.length_singleton]; omega) (by rw [e2, List.length_append, List.length_singleton]; omega) (hC _ hN e1) (fun q => by rw [List.length_append, List.length_singleton]; have := h50 q; omega) (fun _ => hP) (fun q d hd => by
    rcases List.mem_append.mp hd with k | k
    · exact h.ss.2.2.2.2.2.2.1 th ht q d k
    · rw [List.mem_singleton.mp k]; exact h13 q)
  exact hQ σ' _ this.1 this.2 hN e1 (by rw [e2]; omega)
/-- what may stand in what, if less does -/
theorem SC.less (h : SC σ gq N) (hN : ∀ g, 11 ≤ g → N' g ≤ N g) (e5 : N' 5 = N 5) : SC σ gq N' := by
  obtain ⟨h1, h2, h3, h4, h5⟩ := h
  refine ⟨fun w hw => ?_, fun r hr => ?_, fun d hd p s hp hs => ?_, ?_, fun p hp => ?_⟩
  · obtain ⟨a1, a2⟩ := h1 w hw
    have := hN (10 * gq w + 1) (by omega); have := hN (10 * gq w + 2) (by omega); exact ⟨a1, by omega⟩
  · have := h2 r hr; have := hN 13 (by omega); omega
  · obtain ⟨a1, a2, a3⟩ := h3 d hd p s hp hs
    have := hN (10 * gq p + 1) (by omega); have := hN (10 * gq p + 2) (by omega); have := hN (10 * gq s + 1) (by omega); have := hN (10 * gq s + 2) (by omega)
    rw [e5]; exact ⟨a1, by omega, by omega, by omega⟩
  · have := hN 60 (by omega); have := hN 61 (by omega); have := hN 62 (by omega); have := hN 63 (by omega); have := hN 64 (by omega); have := hN 65 (by omega); have := hN 66 (by omega); have := hN 67 (by omega); have := hN 68 (by omega); have := hN 69 (by omega); have := hN 70 (by omega); have := hN 71 (by omega); omega
  · have := h5 p hp
    have := hN 80 (by omega); have := hN 81 (by omega); have := hN 82 (by omega); have := hN 83 (by omega); have := hN 84 (by omega); have := hN 85 (by omega); have := hN 86 (by omega); have := hN 87 (by omega); have := hN 88 (by omega); have := hN 89 (by omega); have := hN 90 (by omega); have := hN 91 (by omega); have := hN 92 (by omega); have := hN 93 (by omega); have := hN 94 (by omega); have := hN 95 (by omega); omega
/-- a group that nothing is said of -/
theorem SC.made (h : SC σ gq N) {G : Nat} (hG : G = 14 ∨ G = 44 ∨ G = 74 ∨ G = 50 ∨ G = 0) (hN : NF [G, 1] N N') : SC σ gq N' := by
  have e5 : N' 5 = N 5 := hN 5 (by simp only [List.mem_cons, List.mem_nil_iff, or_false, not_or]; omega)
  have e : ∀ g, 11 ≤ g → g ≠ G → N' g = N g := fun g q1 q2 => hN g (by simp only [List.mem_cons, List.mem_nil_iff, or_false, not_or]; exact ⟨q2, by omega⟩)
  obtain ⟨k1, k2, k3, k4, k5⟩ := id h
  refine ⟨fun v hv => ?_, fun r hr9 => ?_, fun d hd p s hp hs => ?_, ?_, fun p hp => ?_⟩
  · obtain ⟨a1, a2⟩ := k1 v hv
    have := e (10 * gq v + 1) (by omega) (by omega); have := e (10 * gq v + 2) (by omega) (by omega); exact ⟨a1, by omega⟩
  · have := k2 r hr9; have := e 13 (by omega) (by omega); omega
  · obtain ⟨a1, a2, a3⟩ := k3 d hd p s hp hs
    have := e (10 * gq p + 1) (by omega) (by omega); have := e (10 * gq p + 2) (by omega) (by omega); have := e (10 * gq s + 1) (by omega) (by omega); have := e (10 * gq s + 2) (by omega) (by omega)
    rw [e5]; exact ⟨a1, by omega, by omega, by omega⟩
  · have := e 60 (by omega) (by omega); have := e 61 (by omega) (by omega); have := e 62 (by omega) (by omega); have := e 63 (by omega) (by omega); have := e 64 (by omega) (by omega); have := e 65 (by omega) (by omega); have := e 66 (by omega) (by omega); have := e 67 (by omega) (by omega); have := e 68 (by omega) (by omega); have := e 69 (by omega) (by omega); have := e 70 (by omega) (by omega); have := e 71 (by omega) (by omega);  omega
  · have := k5 p hp
    have := e 80 (by omega) (by omega); have := e 81 (by omega) (by omega); have := e 82 (by omega) (by omega); have := e 83 (by omega) (by omega); have := e 84 (by omega) (by omega); have := e 85 (by omega) (by omega); have := e 86 (by omega) (by omega); have := e 87 (by omega) (by omega); have := e 88 (by omega) (by omega); have := e 89 (by omega) (by omega); have := e 90 (by omega) (by omega); have := e 91 (by omega) (by omega); have := e 92 (by omega) (by omega); have := e 93 (by omega) (by omega); have := e 94 (by omega) (by omega); have := e 95 (by omega) (by omega);  omega
/-- records -/
theorem SC.ab (h : SC σ gq N) {G w : Nat} (hw : kO σ w 11) (hG : G = 10 * gq w + 1 ∨ G = 10 * gq w + 2) (hN : NF [G, 1] N N') (h1 : N' G = N G + 1) (hu : ∀ v, kO σ v 11 → gq v = gq w → v = w) (hr : ((N (10 * gq w + 1) : Nat) : Int) + (N (10 * gq w + 2) : Nat) + 1 ≤ gI σ w 4) : SC σ gq N' := by
  obtain ⟨k1, k2, k3, k4, k5⟩ := id h
  have kw := (k1 w hw).1
  have e5 : N' 5 = N 5 := hN 5 (by simp only [List.mem_cons, List.mem_nil_iff, or_false, not_or]; omega)
  have e : ∀ g, 11 ≤ g → g ≠ G → N' g = N g := fun g q1 q2 => hN g (by simp only [List.mem_cons, List.mem_nil_iff, or_false, not_or]; exact ⟨q2, by omega⟩)
  refine ⟨fun v hv => ?_, fun r hr => ?_, fun d hd p s hp hs => ?_, ?_, fun p hp => ?_⟩
  · obtain ⟨a1, a2⟩ := k1 v hv
    refine ⟨a1, ?_⟩
    by_cases q : gq v = gq w
    · have := hu v hv q; subst this
      rcases hG with g | g
      · have := e (10 * gq v + 2) (by omega) (by omega); rw [g] at h1; omega
      · have := e (10 * gq v + 1) (by omega) (by omega); rw [g] at h1; omega
    · have := e (10 * gq v + 1) (by omega) (by omega); have := e (10 * gq v + 2) (by omega) (by omega); omega
  · have := k2 r hr; have := e 13 (by omega) (by omega); omega
  · obtain ⟨a1, a2, a3⟩ := k3 d hd p s hp hs
    have := e (10 * gq p + 1) (by omega) (by omega); have := e (10 * gq p + 2) (by omega) (by omega); have := e (10 * gq s + 1) (by omega) (by omega); have := e (10 * gq s + 2) (by omega) (by omega)
    rw [e5]; exact ⟨a1, by omega, by omega, by omega⟩
  · have := e 60 (by omega) (by omega); have := e 61 (by omega) (by omega); have := e 62 (by omega) (by omega); have := e 63 (by omega) (by omega); have := e 64 (by omega) (by omega); have := e 65 (by omega) (by omega); have := e 66 (by omega) (by omega); have := e 67 (by omega) (by omega); have := e 68 (by omega) (by omega); have := e 69 (by omega) (by omega); have := e 70 (by omega) (by omega); have := e 71 (by omega) (by omega);  omega
  · have := k5 p hp
    have := e 80 (by omega) (by omega); have := e 81 (by omega) (by omega); have := e 82 (by omega) (by omega); have := e 83 (by omega) (by omega); have := e 84 (by omega) (by omega); have := e 85 (by omega) (by omega); have := e 86 (by omega) (by omega); have := e 87 (by omega) (by omega); have := e 88 (by omega) (by omega); have := e 89 (by omega) (by omega); have := e 90 (by omega) (by omega); have := e 91 (by omega) (by omega); have := e 92 (by omega) (by omega); have := e 93 (by omega) (by omega); have := e 94 (by omega) (by omega); have := e 95 (by omega) (by omega);  omega
/-- the box -/
theorem SC.box (h : SC σ gq N) (hN : NF [13, 1] N N') (h1 : N' 13 = N 13 + 1) (hr : ∀ r, kO σ r 9 → ((N 13 : Nat) : Int) + 1 ≤ gI σ r 14) : SC σ gq N' := by
  obtain ⟨k1, k2, k3, k4, k5⟩ := id h
  have e5 : N' 5 = N 5 := hN 5 (by simp only [List.mem_cons, List.mem_nil_iff, or_false, not_or]; omega)
  have e : ∀ g, 11 ≤ g → g ≠ 13 → N' g = N g := fun g q1 q2 => hN g (by simp only [List.mem_cons, List.mem_nil_iff, or_false, not_or]; exact ⟨q2, by omega⟩)
  refine ⟨fun v hv => ?_, fun r hr9 => ?_, fun d hd p s hp hs => ?_, ?_, fun p hp => ?_⟩
  · obtain ⟨a1, a2⟩ := k1 v hv
    have := e (10 * gq v + 1) (by omega) (by omega); have := e (10 * gq v + 2) (by omega) (by omega); exact ⟨a1, by omega⟩
  · have := hr r hr9; omega
  · obtain ⟨a1, a2, a3⟩ := k3 d hd p s hp hs
    have := e (10 * gq p + 1) (by omega) (by omega); have := e (10 * gq p + 2) (by omega) (by omega); have := e (10 * gq s + 1) (by omega) (by omega); have := e (10 * gq s + 2) (by omega) (by omega)
    rw [e5]; exact ⟨a1, by omega, by omega, by omega⟩
  · have := e 60 (by omega) (by omega); have := e 61 (by omega) (by omega); have := e 62 (by omega) (by omega); have := e 63 (by omega) (by omega); have := e 64 (by omega) (by omega); have := e 65 (by omega) (by omega); have := e 66 (by omega) (by omega); have := e 67 (by omega) (by omega); have := e 68 (by omega) (by omega); have := e 69 (by omega) (by omega); have := e 70 (by omega) (by omega); have := e 71 (by omega) (by omega);  omega
  · have := k5 p hp
    have := e 80 (by omega) (by omega); have := e 81 (by omega) (by omega); have := e 82 (by omega) (by omega); have := e 83 (by omega) (by omega); have := e 84 (by omega) (by omega); have := e 85 (by omega) (by omega); have := e 86 (by omega) (by omega); have := e 87 (by omega) (by omega); have := e 88 (by omega) (by omega); have := e 89 (by omega) (by omega); have := e 90 (by omega) (by omega); have := e 91 (by omega) (by omega); have := e 92 (by omega) (by omega); have := e 93 (by omega) (by omega); have := e 94 (by omega) (by omega); have := e 95 (by omega) (by omega);  omega
/-- rows that came out -/
theorem SC.out (h : SC σ gq N) {G : Nat} (hG : 60 ≤ G ∧ G ≤ 71) (hN : NF [G, 1] N N') (hr : N' 60 + N' 61 + N' 62 + N' 63 + N' 64 + N' 65 + N' 66 + N' 67 + N' 68 + N' 69 + N' 70 + N' 71 ≤ 2000) : SC σ gq N' := by
  obtain ⟨k1, k2, k3, k4, k5⟩ := id h
  have e5 : N' 5 = N 5 := hN 5 (by simp only [List.mem_cons, List.mem_nil_iff, or_false, not_or]; omega)
  have e : ∀ g, 11 ≤ g → g ≠ G → N' g = N g := fun g q1 q2 => hN g (by simp only [List.mem_cons, List.mem_nil_iff, or_false, not_or]; exact ⟨q2, by omega⟩)
  refine ⟨fun v hv => ?_, fun r hr9 => ?_, fun d hd p s hp hs => ?_, hr, fun p hp => ?_⟩
  · obtain ⟨a1, a2⟩ := k1 v hv
    have := e (10 * gq v + 1) (by omega) (by omega); have := e (10 * gq v + 2) (by omega) (by omega); exact ⟨a1, by omega⟩
  · have := k2 r hr9; have := e 13 (by omega) (by omega); omega
  · obtain ⟨a1, a2, a3⟩ := k3 d hd p s hp hs
    have := e (10 * gq p + 1) (by omega) (by omega); have := e (10 * gq p + 2) (by omega) (by omega); have := e (10 * gq s + 1) (by omega) (by omega); have := e (10 * gq s + 2) (by omega) (by omega)
    rw [e5]; exact ⟨a1, by omega, by omega, by omega⟩
  · have := k5 p hp
    have := e 80 (by omega) (by omega); have := e 81 (by omega) (by omega); have := e 82 (by omega) (by omega); have := e 83 (by omega) (by omega); have := e 84 (by omega) (by omega); have := e 85 (by omega) (by omega); have := e 86 (by omega) (by omega); have := e 87 (by omega) (by omega); have := e 88 (by omega) (by omega); have := e 89 (by omega) (by omega); have := e 90 (by omega) (by omega); have := e 91 (by omega) (by omega); have := e 92 (by omega) (by omega); have := e 93 (by omega) (by omega); have := e 94 (by omega) (by omega); have := e 95 (by omega) (by omega);  omega
/-- parts -/
theorem SC.part (h : SC σ gq N) {G d p s : Nat} (hd : kO σ d 3) (hp : gP σ d 0 = some p) (hs : gP σ d 1 = some s) (hu : ∀ v, kO σ v 3 → v = d) (hG : G = 10 * gq p + 1 ∨ G = 10 * gq p + 2) (hN : NF [G, 1] N N') (h1 : N' G = N G + 1) (hr : ((N (10 * gq p + 1) : Nat) : Int) + (N (10 * gq p + 2) : Nat) + 1 ≤ gI σ d 7 + (if gI σ d 3 = 0 then ((N 5 : Nat) : Int) else 4000)) (hr2 : N (10 * gq p + 1) + N (10 * gq p + 2) + 1 + N (10 * gq s + 1) + N (10 * gq s + 2) ≤ 16000) : SC σ gq N' := by
  obtain ⟨k1, k2, k3, k4, k5⟩ := id h
  obtain ⟨b1, b2, b3⟩ := k3 d hd p s hp hs
  have e5 : N' 5 = N 5 := hN 5 (by simp only [List.mem_cons, List.mem_nil_iff, or_false, not_or]; omega)
  have e : ∀ g, 11 ≤ g → g ≠ G → N' g = N g := fun g q1 q2 => hN g (by simp only [List.mem_cons, List.mem_nil_iff, or_false, not_or]; exact ⟨q2, by omega⟩)
  refine ⟨fun v hv => ?_, fun r hr9 => ?_, fun d' hd' p' s' hp' hs' => ?_, ?_, fun p hp => ?_⟩
  · obtain ⟨a1, a2⟩ := k1 v hv
    have := e (10 * gq v + 1) (by omega) (by omega); have := e (10 * gq v + 2) (by omega) (by omega); exact ⟨a1, by omega⟩
  · have := k2 r hr9; have := e 13 (by omega) (by omega); omega
  · have := hu d' hd'; subst this
    rw [hp] at hp'; rw [hs] at hs'; cases hp'; cases hs'
    have := e (10 * gq s + 1) (by omega) (by omega); have := e (10 * gq s + 2) (by omega) (by omega)
    rw [e5]
    rcases hG with g | g
    · have := e (10 * gq p + 2) (by omega) (by omega); rw [g] at h1; exact ⟨b1, by omega, by omega, by omega⟩
    · have := e (10 * gq p + 1) (by omega) (by omega); rw [g] at h1; exact ⟨b1, by omega, by omega, by omega⟩
  · have := e 60 (by omega) (by omega); have := e 61 (by omega) (by omega); have := e 62 (by omega) (by omega); have := e 63 (by omega) (by omega); have := e 64 (by omega) (by omega); have := e 65 (by omega) (by omega); have := e 66 (by omega) (by omega); have := e 67 (by omega) (by omega); have := e 68 (by omega) (by omega); have := e 69 (by omega) (by omega); have := e 70 (by omega) (by omega); have := e 71 (by omega) (by omega);  omega
  · have := k5 _ hp
    have := e 80 (by omega) (by omega); have := e 81 (by omega) (by omega); have := e 82 (by omega) (by omega); have := e 83 (by omega) (by omega); have := e 84 (by omega) (by omega); have := e 85 (by omega) (by omega); have := e 86 (by omega) (by omega); have := e 87 (by omega) (by omega); have := e 88 (by omega) (by omega); have := e 89 (by omega) (by omega); have := e 90 (by omega) (by omega); have := e 91 (by omega) (by omega); have := e 92 (by omega) (by omega); have := e 93 (by omega) (by omega); have := e 94 (by omega) (by omega); have := e 95 (by omega) (by omega);  omega
end IVD

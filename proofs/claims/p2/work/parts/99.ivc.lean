def DEP : List Nat := [10*64, 9*64+10, 9*64+11, 10*64+11, 10*64+12, 10*64+14, 10*64+15, 2*64+1, 2*64+2, 2*64+7, 120*64, 112*64, 11*64+4, 9*64+14, 3*64, 3*64+1, 3*64+3, 3*64+7, 7*64+6, 3, 5*64+3, 5*64+4, 5*64+5, 5*64+6, 5*64+7, 5*64+8, 5*64+9, 5*64+10, 5*64+11, 5*64+12, 5*64+13, 5*64+14, 5*64+15, 5*64+16, 4*64+1, 4*64+2, 4*64+3, 131*64, 8*64+2, 4*64+5, 4*64+6, 4*64+7, 0, 1, 64, 8*64, 5, 6, 2*64+4, 10*64+7, 101*64]
theorem dsub : ∀ y ∈ [10*64, 9*64+10, 9*64+11, 120*64], y ∈ [10*64, 9*64+10, 9*64+11, 120*64, 3] := by decide
theorem dep2 : ∀ x ∈ DEP, x ≤ 131 * 64 ∧ x ≠ 130 * 64 := by decide
section IVW
variable {σ σ' : Sg} {gq ci gr nc N nu : Nat → Nat} {ot : Nat → Nat → Int} {LL : Nat → List Nat} {pl a k : Nat} {L : List Nat}
theorem SB.sk (h : SB σ gq ci nu) (s : Sk L gr σ σ') (d : ∀ x ∈ [10*64, 9*64+10, 9*64+11, 10*64+11, 10*64+12, 10*64+14, 10*64+15, 2*64+1, 2*64+2, 2*64+7, 120*64, 112*64], x ∉ L) : SB σ' gq ci nu := by
  obtain ⟨h1, h2, h3, h4, h5, ⟨h6, h7, h8, h9⟩, ⟨r0, x1, z1, z2⟩, ⟨w1, x2, y2⟩, ⟨w4, x3, y3⟩, ⟨d0, x4⟩, ⟨p0, x5⟩⟩ := h
  refine ⟨h1, fun t ht hq j hj => ?_, fun t ht j hj => ?_, fun c hc hi => ?_, fun r hr t ht hq hi => ?_, ⟨h6, fun t ht => ?_, fun x hx hl t ht hq => ?_, fun x hx hl t ht => ?_⟩, ⟨r0, s.ko.mpr x1, by rw [(s.O x1 ⟨by decide, d _ (by decide)⟩).1]; exact z1, by rw [(s.O x1 ⟨by decide, d _ (by decide)⟩).1]; exact z2⟩, ⟨w1, s.ko.mpr x2, y2⟩, ⟨w4, s.ko.mpr x3, y3⟩, ⟨d0, s.ko.mpr x4⟩, ⟨p0, s.ko.mpr x5⟩⟩
  · have ht := s.ko.mp ht
    rw [(s.A ht ⟨by decide, d _ (by decide)⟩).2.1]; exact h2 t ht hq j hj
  · have ht := s.ko.mp ht
    rw [(s.A ht ⟨by decide, d _ (by decide)⟩).2.1]; exact h3 t ht j hj
  · have hc := s.ko.mp hc
    rw [(s.O hc ⟨by decide, d _ (by decide)⟩).1, (s.O hc ⟨by decide, d _ (by decide)⟩).1, (s.O hc ⟨by decide, d _ (by decide)⟩).1]; exact h4 c hc hi
  · have hr := s.ko.mp hr
    have ht := s.ko.mp ht
    rw [(s.O hr ⟨by decide, d _ (by decide)⟩).1] at hi
    rw [(s.O hr ⟨by decide, d _ (by decide)⟩).1, (s.O ht ⟨by decide, d _ (by decide)⟩).1, (s.O ht ⟨by decide, d _ (by decide)⟩).1, (s.O ht ⟨by decide, d _ (by decide)⟩).1, (s.O ht ⟨by decide, d _ (by decide)⟩).1, (s.O ht (k := 0) ⟨by decide, d _ (by decide)⟩).1]; exact h5 r hr t ht hq hi
  · have ht := s.ko.mp ht
    rw [(s.A ht ⟨by decide, d _ (by decide)⟩).2.1]; exact h7 t ht
  · have ht := s.ko.mp ht
    rw [s.1] at hx; rw [s.2.1] at hl hq
    rw [(s.A ht ⟨by decide, d _ (by decide)⟩).2.1]; exact h8 x hx hl t ht hq
  · have ht := s.ko.mp ht
    rw [s.1] at hx; rw [s.2.1] at hl
    rw [(s.A ht ⟨by decide, d _ (by decide)⟩).2.1, s.2.1]; exact h9 x hx hl t ht
theorem SC.sk (h : SC σ gq N) (s : Sk L gr σ σ') (d : ∀ x ∈ [11*64+4, 9*64+14, 3*64, 3*64+1, 3*64+3, 3*64+7, 7*64+6], x ∉ L) : SC σ' gq N := by
  obtain ⟨h1, h2, h3, h4, h5⟩ := h
  refine ⟨fun w hw => ?_, fun r hr => ?_, fun e he p q hp hq => ?_, h4, fun p hp => ?_⟩
  · have hw := s.ko.mp hw
    rw [(s.O hw ⟨by decide, d _ (by decide)⟩).1]; exact h1 w hw
  · have hr := s.ko.mp hr
    rw [(s.O hr ⟨by decide, d _ (by decide)⟩).1]; exact h2 r hr
  · have he := s.ko.mp he
    rw [(s.O he ⟨by decide, d _ (by decide)⟩).2.1] at hp hq
    rw [(s.O he ⟨by decide, d _ (by decide)⟩).1, (s.O he ⟨by decide, d _ (by decide)⟩).1]; exact h3 e he p q hp hq
  · have hp := s.ko.mp hp
    rw [(s.O hp ⟨by decide, d _ (by decide)⟩).1]; exact h5 p hp
theorem SO.sk (h : SO σ gq gr nc ot) (hA : SA σ gq ci gr nu) (s : Sk L gr σ σ') (d : ∀ x ∈ [5*64+3, 5*64+4, 5*64+5, 5*64+6, 5*64+7, 5*64+8, 5*64+9, 5*64+10, 5*64+11, 5*64+12, 5*64+13, 5*64+14, 5*64+15, 5*64+16, 4*64+1, 4*64+2, 4*64+3, 131*64], x ∉ L) : SO σ' gq gr nc ot := by
  obtain ⟨h1, h2, h3, h4, h5⟩ := h
  refine ⟨h1, h2, h3, fun o ho i hi hq k h3k hk => ?_, fun J hJ hq => ?_⟩
  · have ho := s.ko.mp ho
    have hm : 5 * 64 + k ∈ [5*64+3, 5*64+4, 5*64+5, 5*64+6, 5*64+7, 5*64+8, 5*64+9, 5*64+10, 5*64+11, 5*64+12, 5*64+13, 5*64+14, 5*64+15, 5*64+16, 4*64+1, 4*64+2, 4*64+3, 131*64] := by
      simp only [List.mem_cons]; omega
    rw [(s.O ho ⟨⟨by decide, by decide, by omega⟩, d _ hm⟩).1]; exact h4 o ho i hi hq k h3k hk
  · have hJ := s.ko.mp hJ
    obtain ⟨e1, e2, e3⟩ := h5 J hJ hq
    refine ⟨by rw [(s.O hJ ⟨by decide, d _ (by decide)⟩).1]; exact e1, by rw [(s.O hJ ⟨by decide, d _ (by decide)⟩).1]; exact e2, fun a ha i hi => ?_⟩
    rw [(s.O hJ ⟨by decide, d _ (by decide)⟩).2.1] at ha
    have ga := (T_4_3 hA hJ ha).2.1
    have ka : kO σ a 100 := by have := hA.1 a (by omega); rw [if_neg (by omega)] at this; exact this
    have la : fcd σ gr a i ∉ L := by rw [fcdI ka, ga]; exact d _ (by decide)
    rw [(s.2.2.2 a ka.1 i la).1]; exact e3 a ha i hi
theorem SU.sk (h : SU σ gq N nu) (s : Sk L gr σ σ') (hc : gc σ' = gc σ) (hs : gs σ' = gs σ) (d : ∀ x ∈ [8*64+2, 4*64+5, 4*64+6, 4*64+7, 120*64], x ∉ L) : SU σ' gq N nu := by
  obtain ⟨h1, h2, h3, h4, h5, h6⟩ := h
  refine ⟨by rw [hc]; exact h1, by rw [hs]; exact h2, h3, fun p hp w hw => ?_, fun J hJ c hcd => ?_, fun t ht => ?_⟩
  · have hp := s.ko.mp hp
    rw [(s.O hp ⟨by decide, d _ (by decide)⟩).2.1] at hw
    rw [s.2.2.1]; exact h4 p hp w hw
  · have hJ := s.ko.mp hJ
    rw [(s.O hJ ⟨by decide, d _ (by decide)⟩).2.1] at hcd
    rw [s.2.2.1, (s.O hJ ⟨by decide, d _ (by decide)⟩).1, (s.O hJ ⟨by decide, d _ (by decide)⟩).2.1]; exact h5 J hJ c hcd
  · have ht := s.ko.mp ht
    have e : (fun i => (gP σ' t i).isSome) = (fun i => (gP σ t i).isSome) := by
      funext i; rw [(s.A ht ⟨by decide, d _ (by decide)⟩).2.1]
    rw [e]; exact h6 t ht
theorem PlC.sk {x : Nat} (h : PlC σ gq ci ot x) (s : Sk L gr σ σ') (d : ∀ y ∈ [10*64, 9*64+10, 9*64+11, 120*64], y ∉ L) : PlC σ' gq ci ot x := by
  obtain ⟨h1, h2, h3, h4, h5, h6, h7⟩ := h
  refine ⟨h1, fun q r hr => ?_, fun q r hr => ?_, fun q t ht hq => ?_, fun q t ht hq => ?_, h6, fun q t ht hq hc => ?_⟩
  · have hr := s.ko.mp hr
    rw [(s.O hr ⟨by decide, d _ (by decide)⟩).1]; exact h2 q r hr
  · have hr := s.ko.mp hr
    rw [(s.O hr ⟨by decide, d _ (by decide)⟩).1]; exact h3 q r hr
  · have ht := s.ko.mp ht
    rw [(s.A ht ⟨by decide, d _ (by decide)⟩).2.1]; exact h4 q t ht hq
  · have ht := s.ko.mp ht
    rw [(s.A ht ⟨by decide, d _ (by decide)⟩).2.1]; exact h5 q t ht hq
  · have ht := s.ko.mp ht
    rw [(s.O ht ⟨by decide, d _ (by decide)⟩).1]; exact h7 q t ht hq hc
theorem HP.sk {own : Nat → Nat} (h : HP σ pl LL own) (s : Sk L gr σ σ') (d : ∀ x ∈ [0, 1, 64, 8*64], x ∉ L) : HP σ' pl LL own := by
  obtain ⟨a1, ⟨a2, a3⟩, a4, a5, a6, a7⟩ := h
  have nx : ∀ x, ∀ c ∈ LL x, gP σ' c 1 = gP σ c 1 := fun x c hc => (s.O (a4 x c hc).2 ⟨by decide, d _ (by decide)⟩).2.1
  refine ⟨fun ch hch => ?_, ⟨s.ko.mpr a2, ?_⟩, fun x c hc => ⟨(a4 x c hc).1, s.ko.mpr (a4 x c hc).2⟩, a5, fun x hx => (a6 x hx).imp id s.ko.mpr, fun c hc => ?_⟩
  · have hch := s.ko.mp hch
    obtain ⟨b1, b2, b3⟩ := a1 ch hch
    exact ⟨by rw [(s.C hch (d _ (by decide))).2.1]; exact lk_congr (nx ch) b1, by rw [(s.C hch (d _ (by decide))).2.1]; exact b2, by rw [(s.C hch (d _ (by decide))).1]; exact b3⟩
  · rw [(s.O a2 ⟨by decide, d _ (by decide)⟩).2.1]; exact lk_congr (nx pl) a3
  · have hc := s.ko.mp hc
    obtain ⟨col, c1, c2, c3⟩ := a7 c hc
    exact ⟨col, by rw [(s.O hc ⟨by decide, d _ (by decide)⟩).2.1]; exact c1, s.ko.mpr c2, by rw [s.2.2.1]; exact c3⟩
theorem SS.sk (h : SS σ pl gq ci ot LL N nu) {own : Nat → Nat} (hp : HP σ pl LL own) (s : Sk L gr σ σ') (d : ∀ x ∈ [10*64, 9*64+10, 9*64+11, 120*64, 3], x ∉ L) : SS σ' pl gq ci ot LL N nu := by
  obtain ⟨h1, h2, h3, h4, h5, h6, h7, h8⟩ := h
  refine ⟨by rw [s.1]; exact h1, h2, by rw [s.1]; exact h3, fun x hx => h4 x (s.ko.mp hx), by rw [s.1, s.2.1]; exact h5, fun x hx hL => (show PlC σ' gq ci ot x from PlC.sk (h6 x (s.ko.mp hx) hL) s (fun y hy => d y (dsub y hy))), fun x hx hq c hc => ?_, by rw [s.1]; exact h8⟩
  rw [(s.O (hp.2.2.1 x c hc).2 ⟨by decide, d _ (by decide)⟩).1]; exact h7 x (s.ko.mp hx) hq c hc
theorem SA.pI {v : Int} (h : SA σ gq ci gr nu) (hv : a ∈ gD σ → lbLo (labN σ gr a) k ≤ v ∧ v ≤ lbHi nu (labN σ gr a) k) : SA (pI σ a k v) gq ci gr nu := by
  obtain ⟨h1, h2, h3⟩ := h
  refine ⟨h1, fun b hb j => ?_, h3⟩
  rw [gI_pI]
  by_cases q : b = a ∧ j = k
  · obtain ⟨q1, q2⟩ := q
    subst q1 q2
    rw [up2_s]; exact hv hb
  · rw [up2_n _ _ q]; exact h2 b hb j
theorem SA.pJ {v : Int64} (h : SA σ gq ci gr nu) : SA (pJ σ a k v) gq ci gr nu := h
theorem SA.pP {v : Option Nat} (h : SA σ gq ci gr nu) (hn : lbN (gk σ a) k (gn σ a) = true → v ≠ none) (hv : ∀ b, v = some b → lbT nu (gk σ a) (gq a) (ci a) k (gq b) (ci b) (gn σ b) (gr b)) (hx : lbX (gk σ a) k = true → ∀ b, v = some b → kO σ b (lbG (gk σ a) k)) : SA (pP σ a k v) gq ci gr nu := by
  obtain ⟨h1, h2, h3, h4, h5⟩ := h
  refine ⟨h1, h2, fun b hb j hj => ?_, fun b hb j c hc => ?_, h5⟩
  · rw [gP_pP]
    by_cases q : b = a ∧ j = k
    · obtain ⟨q1, q2⟩ := q
      subst q1 q2
      rw [up2_s]; exact hn hj
    · rw [up2_n _ _ q]; exact h3 b hb j hj
  · rw [gP_pP] at hc
    by_cases q : b = a ∧ j = k
    · obtain ⟨q1, q2⟩ := q
      subst q1 q2
      rw [up2_s] at hc; exact ⟨hv c hc, fun q => hx q c hc⟩
    · rw [up2_n _ _ q] at hc; exact h4 b hb j c hc
theorem SJ.sk (h : SJ σ gr N) (s : Sk L gr σ σ') (d : ∀ x ∈ [5, 6, 2*64+4, 10*64+7, 101*64], x ∉ L) : SJ σ' gr N := by
  obtain ⟨h1, h2, h3, h4, h5⟩ := h
  refine ⟨fun c hc => ?_, fun c hc => ?_, fun t ht => ?_, fun g hg hr p hp => ?_, h5⟩
  · have hc := s.ko.mp hc
    rw [(s.O hc ⟨by decide, d _ (by decide)⟩).2.2, (s.O hc ⟨by decide, d _ (by decide)⟩).2.2]; exact h1 c hc
  · have hc := s.ko.mp hc
    rw [(s.O hc ⟨by decide, d _ (by decide)⟩).2.2]; exact h2 c hc
  · have ht := s.ko.mp ht
    rw [(s.O ht ⟨by decide, d _ (by decide)⟩).2.2]; exact h3 t ht
  · have hg := s.ko.mp hg
    rw [(s.A hg ⟨by decide, d _ (by decide)⟩).2.2]; exact h4 g hg hr p hp
theorem lb_rng {l : Nat} {v : Int} (h0 : nu 0 ≤ 64) (h1 : nu 1 ≤ 512) (h2 : nu 2 ≤ 100000) (hv : lbLo l k ≤ v ∧ v ≤ lbHi nu l k) : rng v := by
  have l1 : (-2147483648 : Int) ≤ lbLo l k := by
    unfold lbLo; repeat' (first | omega | split)
  have l2 : lbHi nu l k ≤ 2147483647 := by
    unfold lbHi; repeat' (first | omega | split)
  unfold rng; omega
theorem IV.nu2 (h : IV σ pl gq ci gr nc ot LL N nu) : nu 0 ≤ 64 ∧ nu 1 ≤ 512 ∧ nu 2 ≤ 100000 := by
  obtain ⟨h1, h2, h3, h4, h5, h6, hR, own, h7⟩ := h
  obtain ⟨w, _, q1, q2, q3⟩ := P_8_2 h1 h7.2.1.1
  exact ⟨h2.1.1, h2.1.2, by omega⟩
theorem IV.sk (h : IV σ pl gq ci gr nc ot LL N nu) (s : Sk L gr σ σ') (hc : σ'.1 = σ.1) (d : ∀ x ∈ DEP, x ∉ L) (hA : SA σ' gq ci gr nu) (hR' : RG σ') : IV σ' pl gq ci gr nc ot LL N nu := by
  obtain ⟨h1, h2, h3, h4, h5, h6, hR, own, h7⟩ := h
  exact ⟨hA, h2.sk s (fun x hx => d x (by revert x; decide)), h3.sk s (fun x hx => d x (by revert x; decide)), h4.sk h7 s (fun x hx => d x (by revert x; decide)), h5.sk h1 s (fun x hx => d x (by revert x; decide)), h6.sk s (congrArg (fun p => p.2.1) hc) (congrArg (fun p => p.2.2) hc) (fun x hx => d x (by revert x; decide)), ⟨hR', hR.2.sk s (fun x hx => d x (by revert x; decide))⟩, own, h7.sk s (fun x hx => d x (by revert x; decide))⟩
theorem IV.wO {l : Nat} {v : Int} (h : IV σ pl gq ci gr nc ot LL N nu) (ha : kO σ a l) (hl : (l < 100 ∧ l ≠ 1 ∧ k < 64) ∧ l * 64 + k ∉ DEP) (hv : lbLo l k ≤ v ∧ v ≤ lbHi nu l k) : IV (pI σ a k v) pl gq ci gr nc ot LL N nu :=
  h.sk (L := [l * 64 + k]) (Sk.pI (by rw [fcdO ha hl.1]; exact List.mem_singleton.mpr rfl)) rfl (fun x hx q => hl.2 (by rw [← List.mem_singleton.mp q]; exact hx)) (h.1.pI (fun _ => by rw [labO ha (by omega)]; exact hv)) (RG.pI h.2.2.2.2.2.2.1.1 (lb_rng h.nu2.1 h.nu2.2.1 h.nu2.2.2 hv))
theorem IV.wA {v : Int} (h : IV σ pl gq ci gr nc ot LL N nu) (ha : kO σ a 100) (hl : gr a ≠ 1) (hv : lbLo (130 + gr a) k ≤ v ∧ v ≤ lbHi nu (130 + gr a) k) : IV (pI σ a k v) pl gq ci gr nc ot LL N nu :=
  h.sk (L := [(130 + gr a) * 64]) (Sk.pI (by rw [fcdI ha]; exact List.mem_singleton.mpr rfl)) rfl (fun x hx q => by
    have e := List.mem_singleton.mp q
    have := dep2 x hx
    omega) (h.1.pI (fun _ => by rw [labI ha]; exact hv)) (RG.pI h.2.2.2.2.2.2.1.1 (lb_rng h.nu2.1 h.nu2.2.1 h.nu2.2.2 hv))
theorem IV.wB {l : Nat} {v : Int} (h : IV σ pl gq ci gr nc ot LL N nu) (ha : kO σ a l) (hl : l = 102 ∨ l = 103) (hv : rng v) : IV (pI σ a k v) pl gq ci gr nc ot LL N nu := by
  have e : lbLo l k = -2147483648 ∧ lbHi nu l k = 2147483647 ∧ 100 < l ∧ l * 64 ∉ DEP := by
    rcases hl with e | e <;> subst e <;> exact ⟨rfl, rfl, by decide, by decide⟩
  exact h.sk (L := [l * 64]) (Sk.pI (by rw [fcdA ha e.2.2.1]; exact List.mem_singleton.mpr rfl)) rfl (fun x hx q => e.2.2.2 (by rw [← List.mem_singleton.mp q]; exact hx)) (h.1.pI (fun _ => by rw [labO ha (by omega), e.1, e.2.1]; unfold rng at hv; omega)) (RG.pI h.2.2.2.2.2.2.1.1 hv)
/-- longs: what is said of them changes alone -/
theorem IV.jW {v : Int64} (h : IV σ pl gq ci gr nc ot LL N nu) (hJ : SJ (pJ σ a k v) gr N) : IV (pJ σ a k v) pl gq ci gr nc ot LL N nu := ⟨h.1, h.2.1, h.2.2.1, h.2.2.2.1, h.2.2.2.2.1, h.2.2.2.2.2.1, ⟨h.2.2.2.2.2.2.1.1, hJ⟩, h.2.2.2.2.2.2.2⟩
/-- a field that nothing is said of -/
theorem IV.wJ {l : Nat} {v : Int64} (h : IV σ pl gq ci gr nc ot LL N nu) (ha : kO σ a l) (hl : (l < 100 ∧ l ≠ 1 ∧ k < 64) ∧ l * 64 + k ∉ [5, 6, 2*64+4, 10*64+7]) : IV (pJ σ a k v) pl gq ci gr nc ot LL N nu := by
  refine h.jW (h.2.2.2.2.2.2.1.2.sk (L := [l * 64 + k]) (Sk.pJ (by rw [fcdO ha hl.1]; exact List.mem_singleton.mpr rfl)) (fun x hx q => ?_))
  have e := List.mem_singleton.mp q
  simp only [List.mem_cons, List.mem_nil_iff, or_false] at hx
  rcases hx with w | w | w | w | w
  · exact hl.2 (by rw [← e, w]; decide)
  · exact hl.2 (by rw [← e, w]; decide)
  · exact hl.2 (by rw [← e, w]; decide)
  · exact hl.2 (by rw [← e, w]; decide)
  · have := hl.1; omega
/-- a time -/
theorem IV.wT {l : Nat} {v : Int64} (h : IV σ pl gq ci gr nc ot LL N nu) (ha : kO σ a l) (hl : (l = 0 ∧ (k = 5 ∨ k = 6)) ∨ (l = 2 ∧ k = 4) ∨ (l = 10 ∧ k = 7)) (hv : tb (N 3) v) : IV (pJ σ a k v) pl gq ci gr nc ot LL N nu := by
  obtain ⟨h1, h2, h3, h4, h5⟩ := h.2.2.2.2.2.2.1.2
  refine h.jW ⟨fun c hc => ?_, fun c hc => ?_, fun t ht => ?_, fun g hg hr p hp => ?_, h5⟩
  · have o := h1 c hc
    constructor
    · rw [gJ_pJ]; by_cases q : c = a ∧ 5 = k
      · rw [q.1, q.2, up2_s]; exact hv
      · rw [up2_n _ _ q]; exact o.1
    · rw [gJ_pJ]; by_cases q : c = a ∧ 6 = k
      · rw [q.1, q.2, up2_s]; exact hv
      · rw [up2_n _ _ q]; exact o.2
  · rw [gJ_pJ]; by_cases q : c = a ∧ 4 = k
    · rw [q.1, q.2, up2_s]; exact hv
    · rw [up2_n _ _ q]; exact h2 c hc
  · rw [gJ_pJ]; by_cases q : t = a ∧ 7 = k
    · rw [q.1, q.2, up2_s]; exact hv
    · rw [up2_n _ _ q]; exact h3 t ht
  · rw [gJ_pJ, up2_n _ _ (fun q => ?_)]; exact h4 g hg hr p hp
    have := ha.2; rw [← q.1, hg.2] at this; omega
/-- a place of an array that isn't one of what was given -/
theorem IV.wL {v : Int64} (h : IV σ pl gq ci gr nc ot LL N nu) (ha : kO σ a 101) (hg : gr a ≠ 9) : IV (pJ σ a k v) pl gq ci gr nc ot LL N nu := by
  obtain ⟨h1, h2, h3, h4, h5⟩ := h.2.2.2.2.2.2.1.2
  have off : ∀ b j l, kO σ b l → l ≠ 101 → gJ (pJ σ a k v) b j = gJ σ b j := fun b j l hb hl => by rw [gJ_pJ]; exact up2_n _ _ (fun q => hl (by rw [← hb.2, q.1, ha.2]))
  refine h.jW ⟨fun c hc => by rw [off c 5 0 hc (by decide), off c 6 0 hc (by decide)]; exact h1 c hc, fun c hc => by rw [off c 4 2 hc (by decide)]; exact h2 c hc, fun t ht => by rw [off t 7 10 ht (by decide)]; exact h3 t ht, fun g hg9 hr p hp => ?_, h5⟩
  rw [gJ_pJ, up2_n _ _ (fun q => hg (by rw [← q.1]; exact hr))]; exact h4 g hg9 hr p hp
theorem IV.wC {b : Nat} {sp tp n : Int} (h : IV σ pl gq ci gr nc ot LL N nu) (hb : kO σ b 101) (hg : gr b ≠ 9) : IV (cpJ σ a sp b tp n) pl gq ci gr nc ot LL N nu := by
  obtain ⟨h1, h2, h3, h4, h5⟩ := h.2.2.2.2.2.2.1.2
  have off : ∀ c j, c ≠ b → gJ (cpJ σ a sp b tp n) c j = gJ σ c j := fun c j hc => by
    show (if c = b ∧ tp ≤ (j : Int) ∧ (j : Int) < tp + n then gJ σ a (sp + ((j : Int) - tp)).toNat else gJ σ c j) = gJ σ c j
    rw [if_neg (fun e => hc e.1)]
  refine ⟨h.1, h.2.1, h.2.2.1, h.2.2.2.1, h.2.2.2.2.1, h.2.2.2.2.2.1, ⟨h.2.2.2.2.2.2.1.1, ⟨fun c hc => ?_, fun c hc => ?_, fun t ht => ?_, fun g hg9 hr p hp => ?_, h5⟩⟩, h.2.2.2.2.2.2.2⟩
  · rw [off c 5 (kO.ne hc hb (by decide)), off c 6 (kO.ne hc hb (by decide))]; exact h1 c hc
  · rw [off c 4 (kO.ne hc hb (by decide))]; exact h2 c hc
  · rw [off t 7 (kO.ne ht hb (by decide))]; exact h3 t ht
  · rw [off g _ (fun q => hg (by rw [← q]; exact hr))]; exact h4 g hg9 hr p hp
theorem IV.wP {l : Nat} {v : Option Nat} (h : IV σ pl gq ci gr nc ot LL N nu) (ha : kO σ a l) (hl : (l < 100 ∧ l ≠ 1 ∧ k < 64) ∧ l * 64 + k ∉ DEP) (hn : lbN l k (gn σ a) = true → v ≠ none) (hv : ∀ b, v = some b → lbT nu l (gq a) (ci a) k (gq b) (ci b) (gn σ b) (gr b)) (hx : lbX l k = true → ∀ b, v = some b → kO σ b (lbG l k)) : IV (pP σ a k v) pl gq ci gr nc ot LL N nu :=
  h.sk (L := [l * 64 + k]) (Sk.pP (by rw [fcdO ha hl.1]; exact List.mem_singleton.mpr rfl)) rfl (fun x hx q => hl.2 (by rw [← List.mem_singleton.mp q]; exact hx)) (h.1.pP (by rw [ha.2]; exact hn) (by rw [ha.2]; exact hv) (by rw [ha.2]; exact hx)) h.2.2.2.2.2.2.1.1
end IVW

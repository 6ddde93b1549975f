/-! new things -/
/-- E are new, the others are as they were -/
def Gw (E : List Nat) (σ σ' : Sg) : Prop := gD σ' = gD σ ++ E ∧ (gD σ').Nodup ∧ Ext σ σ' ∧ ∀ a ∈ gD σ, ∀ k, Sm σ σ' a k
section GRW
variable {σ σ' : Sg} {gq ci gr nc N N' nu gq' ci' nu' : Nat → Nat} {ot : Nat → Nat → Int} {LL : Nat → List Nat} {pl : Nat} {E : List Nat}
theorem Gw.new (g : Gw E σ σ') {x : Nat} (hx : x ∈ E) : x ∉ gD σ := fun h => by
  have := g.2.1; rw [g.1] at this
  exact (List.nodup_append.mp this).2.2 x h x hx rfl
theorem Gw.old (g : Gw E σ σ') {a l : Nat} (hE : ∀ x ∈ E, gk σ' x ≠ l) (h : kO σ' a l) : kO σ a l := by
  have := h.1; rw [g.1] at this
  rcases List.mem_append.mp this with q | q
  · exact ⟨q, by rw [← (g.2.2.1 a q).2.1]; exact h.2⟩
  · exact absurd h.2 (hE a q)
theorem Gw.two (g : Gw E σ σ') {a l : Nat} (h : kO σ' a l) : kO σ a l ∨ (a ∈ E ∧ gk σ' a = l) := by
  have := h.1; rw [g.1] at this
  rcases List.mem_append.mp this with q | q
  · exact Or.inl ⟨q, by rw [← (g.2.2.1 a q).2.1]; exact h.2⟩
  · exact Or.inr ⟨q, h.2⟩
theorem SB.gw (h : SB σ gq ci nu) (g : Gw E σ σ') (hq : ∀ a ∈ gD σ, gq' a = gq a ∧ ci' a = ci a) (hE : ∀ x ∈ E, gk σ' x ≠ 9 ∧ gk σ' x ≠ 120 ∧ gk σ' x ≠ 112) (h2 : ∀ x ∈ E, gk σ' x = 2 → nu 16 ≤ ci' x) (h10 : ∀ x ∈ E, gk σ' x = 10 → gq' x = 1 → ∀ r, kO σ r 9 → gI σ r 10 ≤ ci' x) (hT : ∀ x ∈ E, tlab (gk σ' x) (gq' x) = 0 ∧ clab (gk σ' x) (gq' x) = false) : SB σ' gq' ci' nu := by
  obtain ⟨a1, a2, a3, a4, a5, ⟨a6, a7, a8, a9⟩, ⟨r0, x1, z1, z2⟩, ⟨w1, x2, y2⟩, ⟨w4, x3, y3⟩, ⟨d0, x4⟩, ⟨p0, x5⟩⟩ := h
  have e := g.2.2.1
  refine ⟨a1, fun t ht q j hj => ?_, fun t ht j hj => ?_, fun c hc hi => ?_, fun r hr t ht q hi => ?_, ⟨a6, fun t ht => ?_, fun x hx hl t ht q => ?_, fun x hx hl t ht => ?_⟩, ⟨r0, x1.up e, by rw [(g.2.2.2 r0 x1.1 10).1]; exact z1, by rw [(g.2.2.2 r0 x1.1 11).1]; exact z2⟩, ⟨w1, x2.up e, by rw [(hq w1 x2.1).1]; exact y2⟩, ⟨w4, x3.up e, by rw [(hq w4 x3.1).1]; exact y3⟩, ⟨d0, x4.up e⟩, ⟨p0, x5.up e⟩⟩
  · have ht := g.old (fun x hx => (hE x hx).2.1) ht
    rw [(g.2.2.2 t ht.1 j).2.1]; exact a2 t ht (by rw [← (hq t ht.1).1]; exact q) j hj
  · have ht := g.old (fun x hx => (hE x hx).2.2) ht
    rw [(g.2.2.2 t ht.1 j).2.1]; exact a3 t ht j hj
  · rcases g.two hc with k | k
    · rw [(g.2.2.2 c k.1 1).1, (g.2.2.2 c k.1 2).1, (g.2.2.2 c k.1 7).1, (hq c k.1).2]; rw [(hq c k.1).2] at hi; exact a4 c k hi
    · have := h2 c k.1 k.2; omega
  · have hr := g.old (fun x hx => (hE x hx).1) hr
    rw [(g.2.2.2 r hr.1 10).1] at hi
    rcases g.two ht with k | k
    · rw [(hq t k.1).2] at hi; rw [(hq t k.1).1] at q
      rw [(g.2.2.2 t k.1 11).1, (g.2.2.2 t k.1 12).1, (g.2.2.2 t k.1 14).1, (g.2.2.2 t k.1 15).1, (g.2.2.2 t k.1 0).1, (g.2.2.2 r hr.1 11).1]; exact a5 r hr t k q hi
    · have := h10 t k.1 k.2 q r hr; omega
  · have ht := g.old (fun x hx => (hE x hx).2.2) ht
    rw [(g.2.2.2 t ht.1 _).2.1]; exact a7 t ht
  · have ht := g.old (fun x hx => (hE x hx).2.1) ht
    rw [g.1] at hx
    rcases List.mem_append.mp hx with w | w
    · rw [(e x w).2.1, (hq x w).1] at hl q; rw [(hq t ht.1).1] at q; rw [(hq x w).2, (g.2.2.2 t ht.1 _).2.1]; exact a8 x w hl t ht q
    · exact absurd (hT x w).1 hl
  · have ht := g.old (fun x hx => (hE x hx).2.2) ht
    rw [g.1] at hx
    rcases List.mem_append.mp hx with w | w
    · rw [(e x w).2.1, (hq x w).1] at hl; rw [(hq x w).2, (g.2.2.2 t ht.1 _).2.1, (e x w).2.1, (hq x w).1]; exact a9 x w hl t ht
    · rw [(hT x w).2] at hl; cases hl
theorem SC.gw (h : SC σ gq N) (hA : SA σ gq ci gr nu) (g : Gw E σ σ') (hq : ∀ a ∈ gD σ, gq' a = gq a ∧ ci' a = ci a) (hE : ∀ x ∈ E, gk σ' x ≠ 9 ∧ gk σ' x ≠ 11 ∧ gk σ' x ≠ 3 ∧ gk σ' x ≠ 7) : SC σ' gq' N := by
  obtain ⟨a1, a2, a3, a4, a5⟩ := h
  refine ⟨fun w hw => ?_, fun r hr => ?_, fun d hd p s hp hs => ?_, a4, fun p hp => ?_⟩
  · have hw := g.old (fun x hx => (hE x hx).2.1) hw
    rw [(g.2.2.2 w hw.1 4).1, (hq w hw.1).1]; exact a1 w hw
  · have hr := g.old (fun x hx => (hE x hx).1) hr
    rw [(g.2.2.2 r hr.1 14).1]; exact a2 r hr
  · have hd := g.old (fun x hx => (hE x hx).2.2.1) hd
    rw [(g.2.2.2 d hd.1 0).2.1] at hp
    rw [(g.2.2.2 d hd.1 1).2.1] at hs
    rw [(g.2.2.2 d hd.1 7).1, (g.2.2.2 d hd.1 3).1, (hq p (hA.mem hd rfl hp)).1, (hq s (hA.mem hd rfl hs)).1]; exact a3 d hd p s hp hs
  · have hp := g.old (fun x hx => (hE x hx).2.2.2) hp
    rw [(g.2.2.2 p hp.1 6).1]; exact a5 p hp
theorem SO.gw (h : SO σ gq gr nc ot) (hA : SA σ gq ci gr nu) (g : Gw E σ σ') (hq : ∀ a ∈ gD σ, gq' a = gq a ∧ ci' a = ci a) (hE : ∀ x ∈ E, gk σ' x ≠ 4 ∧ gk σ' x ≠ 5) : SO σ' gq' gr nc ot := by
  obtain ⟨a1, a2, a3, a4, a5⟩ := h
  refine ⟨a1, a2, a3, fun o ho i hi q k h3 hk => ?_, fun J hJ q => ?_⟩
  · have ho := g.old (fun x hx => (hE x hx).2) ho
    rw [(g.2.2.2 o ho.1 k).1]; exact a4 o ho i hi (by rw [← (hq o ho.1).1]; exact q) k h3 hk
  · have hJ := g.old (fun x hx => (hE x hx).1) hJ
    obtain ⟨b1, b2, b3⟩ := a5 J hJ (by rw [← (hq J hJ.1).1]; exact q)
    refine ⟨by rw [(g.2.2.2 J hJ.1 1).1]; exact b1, by rw [(g.2.2.2 J hJ.1 2).1]; exact b2, fun a ha i hi => ?_⟩
    rw [(g.2.2.2 J hJ.1 3).2.1] at ha
    have ga := (T_4_3 hA hJ ha).2.1
    have ka : kO σ a 100 := by have := hA.1 a (by omega); rw [if_neg (by omega)] at this; exact this
    rw [(g.2.2.2 a ka.1 i).1]; exact b3 a ha i hi
theorem SJ.gw (h : SJ σ gr N) (g : Gw E σ σ') (hg : ∀ a, gr a ≠ 0 → a ∈ gD σ) (h0 : ∀ x ∈ E, gk σ' x = 0 → gJ σ' x 5 = 0 ∧ gJ σ' x 6 = 0) (h2 : ∀ x ∈ E, gk σ' x = 2 → gJ σ' x 4 = 0) (h10 : ∀ x ∈ E, gk σ' x = 10 → gJ σ' x 7 = 0) : SJ σ' gr N := by
  obtain ⟨a1, a2, a3, a4, a5⟩ := h
  have z : tb (N 3) 0 := by unfold tb; have : (0 : Int64).toInt = 0 := rfl; omega
  refine ⟨fun c hc => ?_, fun c hc => ?_, fun t ht => ?_, fun b hb hr p hp => ?_, a5⟩
  · rcases g.two hc with k | k
    · rw [(g.2.2.2 c k.1 5).2.2, (g.2.2.2 c k.1 6).2.2]; exact a1 c k
    · rw [(h0 c k.1 k.2).1, (h0 c k.1 k.2).2]; exact ⟨z, z⟩
  · rcases g.two hc with k | k
    · rw [(g.2.2.2 c k.1 4).2.2]; exact a2 c k
    · rw [h2 c k.1 k.2]; exact z
  · rcases g.two ht with k | k
    · rw [(g.2.2.2 t k.1 7).2.2]; exact a3 t k
    · rw [h10 t k.1 k.2]; exact z
  · have bD := hg b (by omega)
    rw [(g.2.2.2 b bD _).2.2]; exact a4 b ⟨bD, by rw [← (g.2.2.1 b bD).2.1]; exact hb.2⟩ hr p hp
theorem PlC.gw {x : Nat} (h : PlC σ gq ci ot x) (g : Gw E σ σ') (hq : ∀ a ∈ gD σ, gq' a = gq a ∧ ci' a = ci a) (hx : x ∈ gD σ) (hE : ∀ x ∈ E, gk σ' x ≠ 9 ∧ gk σ' x ≠ 120 ∧ gk σ' x ≠ 10) : PlC σ' gq' ci' ot x := by
  obtain ⟨a1, a2, a3, a4, a5, a6, a7⟩ := h
  unfold PlC
  rw [(hq x hx).1, (hq x hx).2]
  refine ⟨a1, fun q r hr => ?_, fun q r hr => ?_, fun q t ht qt => ?_, fun q t ht qt => ?_, a6, fun q t ht qt qc => ?_⟩
  · have hr := g.old (fun x hx => (hE x hx).1) hr
    rw [(g.2.2.2 r hr.1 10).1]; exact a2 q r hr
  · have hr := g.old (fun x hx => (hE x hx).1) hr
    rw [(g.2.2.2 r hr.1 11).1]; exact a3 q r hr
  · have ht := g.old (fun x hx => (hE x hx).2.1) ht
    rw [(g.2.2.2 t ht.1 _).2.1]; exact a4 q t ht (by rw [← (hq t ht.1).1]; exact qt)
  · have ht := g.old (fun x hx => (hE x hx).2.1) ht
    rw [(g.2.2.2 t ht.1 _).2.1]; exact a5 q t ht (by rw [← (hq t ht.1).1]; exact qt)
  · have ht := g.old (fun x hx => (hE x hx).2.2) ht
    rw [(g.2.2.2 t ht.1 0).1]; exact a7 q t ht (by rw [← (hq t ht.1).1]; exact qt) (by rw [← (hq t ht.1).2]; exact qc)
theorem HP.gw {own : Nat → Nat} (h : HP σ pl LL own) (g : Gw E σ σ') (hC : ∀ x ∈ E, gk σ' x = 1 → gP σ' x 0 = none ∧ gP σ' x 1 = none ∧ gI σ' x 2 = 0) (h0 : ∀ x ∈ E, gk σ' x = 0 → clO σ' x) : HP σ' pl LL own := by
  obtain ⟨a1, ⟨a2, a3⟩, a4, a5, a6, a7⟩ := h
  have e := g.2.2.1
  have nx : ∀ x, ∀ c ∈ LL x, gP σ' c 1 = gP σ c 1 := fun x c hc => (g.2.2.2 c (a4 x c hc).2.1 1).2.1
  refine ⟨fun ch hch => ?_, ⟨a2.up e, ?_⟩, fun x c hc => ⟨(a4 x c hc).1, (a4 x c hc).2.up e⟩, a5, fun x hx => (a6 x hx).imp id (fun k => k.up e), fun c hc => ?_⟩
  · rcases g.two hch with k | k
    · obtain ⟨b1, b2, b3⟩ := a1 ch k
      exact ⟨by rw [(g.2.2.2 ch k.1 0).2.1]; exact lk_congr (nx ch) b1, by rw [(g.2.2.2 ch k.1 1).2.1]; exact b2, by rw [(g.2.2.2 ch k.1 2).1]; exact b3⟩
    · have eL : LL ch = [] := by
        cases q : LL ch with
        | nil => rfl
        | cons c T =>
          rcases a6 ch (by rw [q]; simp) with w | w
          · exact absurd (w ▸ a2.1) (g.new k.1)
          · exact absurd w.1 (g.new k.1)
      obtain ⟨c1, c2, c3⟩ := hC ch k.1 k.2
      rw [eL]
      exact ⟨c1, c2, c3⟩
  · rw [(g.2.2.2 pl a2.1 0).2.1]; exact lk_congr (nx pl) a3
  · rcases g.two hc with k | k
    · obtain ⟨col, c1, c2, c3⟩ := a7 c k
      exact ⟨col, by rw [(g.2.2.2 c k.1 0).2.1]; exact c1, c2.up e, by rw [(e col c2.1).2.2]; exact c3⟩
    · exact h0 c k.1 k.2
theorem ns_gw {own : Nat → Nat} (h : HP σ pl LL own) (g : Gw E σ σ') (hq : ∀ a ∈ gD σ, gq' a = gq a ∧ ci' a = ci a) (G : Nat) : ns (gD σ') gq' LL G = ns (gD σ) gq LL G := by
  unfold ns
  rw [g.1, map_sum_app]
  have z : (E.map (fun x => if gq' x = G then (LL x).length else 0)).sum = 0 := map_sum_zero (fun x hx => by
    have eL : LL x = [] := by
      cases q : LL x with
      | nil => rfl
      | cons c T =>
        rcases h.2.2.2.2.1 x (by rw [q]; simp) with w | w
        · exact absurd (w ▸ h.2.1.1.1) (g.new hx)
        · exact absurd w.1 (g.new hx)
    rw [eL]; simp)
  rw [z, map_sum_congr (fun x hx => by rw [(hq x hx).1])]; rfl
theorem nt_gw {own : Nat → Nat} (h : HP σ pl LL own) (g : Gw E σ σ') : nt (gD σ') LL = nt (gD σ) LL := by
  unfold nt
  rw [g.1, map_sum_app]
  have z : (E.map (fun x => (LL x).length)).sum = 0 := map_sum_zero (fun x hx => by
    have eL : LL x = [] := by
      cases q : LL x with
      | nil => rfl
      | cons c T =>
        rcases h.2.2.2.2.1 x (by rw [q]; simp) with w | w
        · exact absurd (w ▸ h.2.1.1.1) (g.new hx)
        · exact absurd w.1 (g.new hx)
    rw [eL]; rfl)
  rw [z]; rfl
theorem cnt_gw (g : Gw E σ σ') (hq : ∀ a ∈ gD σ, gq' a = gq a ∧ ci' a = ci a) : (gD σ').countP (fun x => decide (gk σ' x = 1 ∧ gq' x = 50)) = (gD σ).countP (fun x => decide (gk σ x = 1 ∧ gq x = 50)) + E.countP (fun x => decide (gk σ' x = 1 ∧ gq' x = 50)) := by
  rw [g.1, List.countP_append]
  congr 1
  refine List.countP_congr (fun x hx => ?_)
  rw [(g.2.2.1 x hx).2.1, (hq x hx).1]
theorem SU.gw (h : SU σ gq N nu) (hA : SA σ gq ci gr nu) (g : Gw E σ σ') (hq : ∀ a ∈ gD σ, gq' a = gq a ∧ ci' a = ci a) (hE : ∀ x ∈ E, gk σ' x ≠ 8 ∧ gk σ' x ≠ 4 ∧ gk σ' x ≠ 120) (h6 : ∀ J, kO σ J 4 → ∀ m, gP σ J 6 = some m → m ∈ gD σ)
    (h1 : gc σ' ≤ KC + 2 * N' 2 + 4 * (nu' 0 + nu' 8 + nu' 9) + 2 * nu' 10 + nu' 12 + nu' 13 + nu' 14 + nu' 5) (h2 : gs σ' ≤ KS + 16 * N' 2 + 40 * (nu' 0 + nu' 8 + nu' 9) + 20 * nu' 10 + 2 * nu' 12 + 4 * (nu' 13 + nu' 14) + 6 * nu' 5) (h3 : N' 2 ≤ 80000) (hu : ∀ k, k = 5 ∨ k = 8 ∨ k = 9 ∨ k = 12 ∨ k = 13 ∨ k = 14 → nu' k = nu k) : SU σ' gq' N' nu' := by
  obtain ⟨a1, a2, ⟨b0, b1, b2, b3, b4, b5, b6⟩, a4, a5, a6⟩ := h
  have u5 := hu 5 (by omega)
  have u8 := hu 8 (by omega); have u9 := hu 9 (by omega); have u12 := hu 12 (by omega); have u13 := hu 13 (by omega); have u14 := hu 14 (by omega)
  refine ⟨h1, h2, ⟨by omega, by omega, by omega, by omega, by omega, by omega, h3⟩, fun p hp w hw => ?_, fun J hJ c hc => ?_, fun t ht => ?_⟩
  · have hp := g.old (fun x hx => (hE x hx).1) hp
    rw [(g.2.2.2 p hp.1 2).2.1] at hw
    rw [(g.2.2.1 w (hA.mem hp rfl hw)).2.2, u12]; exact a4 p hp w hw
  · have hJ := g.old (fun x hx => (hE x hx).2.1) hJ
    rw [(g.2.2.2 J hJ.1 5).2.1] at hc
    have ec := (g.2.2.1 c (hA.mem hJ rfl hc)).2.2
    obtain ⟨c1, c2, c3, c4⟩ := a5 J hJ c hc
    rw [ec, (hq J hJ.1).1, u13, u14, (g.2.2.2 J hJ.1 7).1]
    refine ⟨c1, c2, fun m hm => ?_, c4⟩
    rw [(g.2.2.2 J hJ.1 6).2.1] at hm
    rw [(g.2.2.1 m (h6 J hJ m hm)).2.2]; exact c3 m hm
  · have ht := g.old (fun x hx => (hE x hx).2.2) ht
    have e : (fun i => (gP σ' t i).isSome) = (fun i => (gP σ t i).isSome) := by
      funext i; rw [(g.2.2.2 t ht.1 i).2.1]
    rw [e, (hq t ht.1).1, u8, u9]; exact a6 t ht
theorem sum8 {f : Nat → Nat} {p : Nat → Bool} : ∀ {D : List Nat}, (∀ x ∈ D, f x ≤ if p x = true then 8 else 0) → (D.map f).sum ≤ 8 * D.countP p
  | [], _ => Nat.le_refl _
  | d :: D, h => by
    rw [List.map_cons, List.sum_cons, List.countP_cons]
    have h1 := h d List.mem_cons_self
    have h2 := sum8 (f := f) (p := p) (D := D) (fun x hx => h x (List.mem_cons_of_mem _ hx))
    by_cases q : p d = true
    · rw [if_pos q] at h1; rw [if_pos q]; omega
    · rw [if_neg q] at h1; rw [if_neg q]; omega
/-- the places that are taken -/
theorem IV.tot (h : IV σ pl gq ci gr nc ot LL N nu) : N 2 ≤ N 0 + 38300 + N 14 + N 44 + N 74 + N 1 := by
  obtain ⟨i1, i2, i3, i4, i5, i6, i7, own, i8⟩ := id h
  obtain ⟨⟨r0, x1, _, _⟩, ⟨w1, x2, y2⟩, ⟨w4, x3, y3⟩, ⟨d0, x4⟩, ⟨p0, x5⟩⟩ := i2.2.2.2.2.2.2
  have e := i4.2.2.2.2.2.2.2
  have l := nt_le (D := gD σ) (gq := gq) (LL := LL) (0 :: GL) (fun x hx hL => by
    rcases i8.2.2.2.2.1 x hL with q | q
    · rw [q, i4.2.1]; exact List.mem_cons_self
    · exact List.mem_cons_of_mem _ (i4.2.2.2.2.2.1 x q hL).1)
  have eN : ((0 :: GL).map (fun g => ns (gD σ) gq LL g)).sum = ((0 :: GL).map N).sum := map_sum_congr (fun g hg => by
    rcases List.mem_cons.mp hg with q | q
    · rw [q]; exact (i4.2.2.1 0 (Or.inl rfl)).symm
    · exact (i4.2.2.1 g (gl11 g q)).symm)
  rw [eN] at l
  have a1 := (i3.1 w1 x2).2; rw [y2] at a1; simp only [Nat.reduceMul, Nat.reduceAdd] at a1
  have a2 := (i3.1 w4 x3).2; rw [y3] at a2; simp only [Nat.reduceMul, Nat.reduceAdd] at a2
  have q1 := I_11_4 i1 x2
  have q2 := I_11_4 i1 x3
  have a3 := i3.2.1 r0 x1
  have q3 := I_9_14 i1 x1
  obtain ⟨pp, ep, fp⟩ := P_3_0 i1 x4
  obtain ⟨sp, es, fs⟩ := P_3_1 i1 x4
  obtain ⟨b1, b2, b3⟩ := i3.2.2.1 d0 x4 pp sp ep es
  have q4 := I_3_7 i1 x4
  have a5 := i3.2.2.2.1
  have a6 := i3.2.2.2.2 p0 x5
  have q6 := I_7_6 i1 x5
  have n50 : N 50 ≤ 8 * nu 10 := by
    rw [i4.2.2.1 50 (by omega)]
    have c := i4.2.2.2.2.1
    have : ns (gD σ) gq LL 50 ≤ 8 * (gD σ).countP (fun x => decide (gk σ x = 1 ∧ gq x = 50)) := by
      refine sum8 (fun x hx => ?_)
      by_cases q : gq x = 50
      · rw [if_pos q]
        by_cases qL : LL x = []
        · rw [qL]; simp
        · rcases i8.2.2.2.2.1 x qL with w | w
          · rw [w, i4.2.1] at q; omega
          · rw [if_pos (decide_eq_true ⟨w.2, q⟩)]; exact i4.2.2.2.1 x w q
      · rw [if_neg q]; omega
    omega
  have u10 := i2.2.2.2.2.2.1.1
  have u1 := i2.1.2
  have s4 : N 21 + N 22 + N 31 + N 32 ≤ 16000 := by
    rcases b1 with ⟨c1, c2⟩ | ⟨c1, c2⟩
    · have b4 := b3.2; rw [c1, c2] at b4; simp only [Nat.reduceMul, Nat.reduceAdd] at b4; omega
    · have b4 := b3.2; rw [c1, c2] at b4; simp only [Nat.reduceMul, Nat.reduceAdd] at b4; omega
  simp only [GL, List.map_cons, List.map_nil, List.sum_cons, List.sum_nil] at l
  omega
end GRW

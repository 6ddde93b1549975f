/-! chains that are emptied one after another -/
def Em (gq ci : Nat → Nat) (LL : Nat → List Nat) (g : Nat) (n : Int) : Prop := ∀ x, gq x = g → (ci x : Int) < n → LL x = []
section EMS
variable {σ σ' : Sg} {gq ci gr nc N N' nu : Nat → Nat} {ot : Nat → Nat → Int} {LL LL' : Nat → List Nat} {pl th c g d p s t w x k T : Nat} {n v : Int}
theorem IV.chn (i : IV σ pl gq ci gr nc ot LL N nu) (hL : LL x ≠ []) (h0 : gq x ≠ 0) : kO σ x 1 := by
  obtain ⟨own, hp⟩ := i.hp
  rcases hp.2.2.2.2.1 x hL with w | w
  · exact absurd (w ▸ i.ss.2.1) h0
  · exact w
theorem Em.z : Em gq ci LL g 0 := fun x _ h => by omega
theorem Em.step (h : Em gq ci LL g n) (i : IV σ pl gq ci gr nc ot LL N nu) (hg : 11 ≤ g) (kc : kO σ c 1) (hq : gq c = g) (hc : (ci c : Int) = n) (e : LL' c = []) (o : ∀ x, x ≠ c → gq x ≠ 0 → LL' x = LL x) : Em gq ci LL' g (n + 1) := fun x hx hn => by
  by_cases w : x = c
  · rw [w]; exact e
  · rw [o x w (by omega)]
    by_cases v : (ci x : Int) < n
    · exact h x hx v
    · cases q : LL x with
      | nil => rfl
      | cons d T => exact absurd (i.un' (i.chn (by rw [q]; simp) (by omega)) kc rfl (by omega) (by omega)) w
theorem Em.oth (h : Em gq ci LL g n) (hne : gq c ≠ g) (o : ∀ x, x ≠ c → gq x ≠ 0 → LL' x = LL x) (hg : g ≠ 0) : Em gq ci LL' g n := fun x hx hn => by
  rw [o x (fun w => hne (by rw [← w]; exact hx)) (by omega)]; exact h x hx hn
theorem Em.skip (h : Em gq ci LL g n) (hb : ∀ x, gq x = g → LL x ≠ [] → (ci x : Int) ≠ n) : Em gq ci LL g (n + 1) := fun x hx hn => by
  by_cases v : (ci x : Int) < n
  · exact h x hx v
  · cases q : LL x with
    | nil => rfl
    | cons d T => exact absurd (by omega) (hb x hx (by rw [q]; simp))
theorem Em.all (h : Em gq ci LL g n) (i : IV σ pl gq ci gr nc ot LL N nu) (hg : 11 ≤ g) (hb : ∀ x, kO σ x 1 → gq x = g → LL x ≠ [] → (ci x : Int) < n) : ∀ x, gq x = g → LL x = [] := fun x hx => by
  cases q : LL x with
  | nil => rfl
  | cons d T =>
    have := h x hx (hb x (i.chn (by rw [q]; simp) (by omega)) hx (by rw [q]; simp))
    rw [q] at this; exact this
theorem IV.em0 (i : IV σ pl gq ci gr nc ot LL N nu) (hg : 11 ≤ g) (h : ∀ x, gq x = g → LL x = []) : N g = 0 := by
  rw [i.ss.2.2.1 g (Or.inr hg)]; exact ns_zero (fun x _ q => h x q)
theorem IV.pl2 (i : IV σ pl gq ci gr nc ot LL N nu) (kt : kO σ t 120) (hT : gq t = T) (h2 : T = 2 ∨ T = 3) (hq : gq x = 10 * T + 1 ∨ gq x = 10 * T + 2) (hL : LL x ≠ []) : ci x < 64 ∧ gP σ t (ci x) ≠ none := by
  obtain ⟨_, _, _, p4, p5, _⟩ := i.ss.2.2.2.2.2.1 x (i.chn hL (by omega)) hL
  rcases h2 with e | e
  · exact p4 (by omega) t kt (by omega)
  · exact p5 (by omega) t kt (by omega)
theorem IV.pl1 (i : IV σ pl gq ci gr nc ot LL N nu) (hq : gq x = 11 ∨ gq x = 12 ∨ gq x = 13) (hL : LL x ≠ []) : ci x < nu 15 := by
  obtain ⟨r0, x1, z1, z2⟩ := i.2.1.2.2.2.2.2.2.1
  have := (i.ss.2.2.2.2.2.1 x (i.chn hL (by omega)) hL).2.1 hq r0 x1
  omega
theorem IV.pl50 (i : IV σ pl gq ci gr nc ot LL N nu) (hq : gq x = 50) (hL : LL x ≠ []) : ci x < nu 16 := by
  obtain ⟨r0, x1, z1, z2⟩ := i.2.1.2.2.2.2.2.2.1
  have := (i.ss.2.2.2.2.2.1 x (i.chn hL (by omega)) hL).2.2.1 hq r0 x1
  omega
theorem IV.plc2 (i : IV σ pl gq ci gr nc ot LL N nu) (kc : kO σ c 1) (h2 : T = 2 ∨ T = 3) (hq : gq c = 10 * T + 1 ∨ gq c = 10 * T + 2) (h7 : 0 ≤ ot (ci c / 4) 7) : PlC σ gq ci ot c := by
  have a8 := i.2.1.2.2.2.2.2.1.2.2.1 c kc.1
  have tl : tlab (gk σ c) (gq c) = T := by
    rw [kc.2]; rcases h2 with e | e <;> subst e <;> rcases hq with e | e <;> rw [e] <;> rfl
  rw [tl] at a8
  have a8 := a8 (by omega)
  refine ⟨?_, fun w => by omega, fun w => by omega, fun w t ht v => a8 t ht (by omega), fun w t ht v => a8 t ht (by omega), fun _ => h7, fun w => by omega⟩
  rcases h2 with e | e <;> subst e <;> rcases hq with e | e <;> rw [e] <;> decide
/-- the disk's part -/
theorem IV.dk (i : IV σ pl gq ci gr nc ot LL N nu) (hd : kO σ d 3) (hp : gP σ d 0 = some p) (hs : gP σ d 1 = some s) : ((gq p = 2 ∧ gq s = 3) ∨ (gq p = 3 ∧ gq s = 2)) ∧ ((N (10 * gq p + 1) : Nat) : Int) + (N (10 * gq p + 2) : Nat) ≤ gI σ d 7 + (if gI σ d 3 = 0 then ((N 5 : Nat) : Int) else 4000) ∧ N (10 * gq s + 1) + N (10 * gq s + 2) ≤ 8000 ∧ N (10 * gq p + 1) + N (10 * gq p + 2) + N (10 * gq s + 1) + N (10 * gq s + 2) ≤ 16000 := i.2.2.1.2.2.1 d hd p s hp hs
theorem IV.dput (h : IV σ pl gq ci gr nc ot LL N nu) (hd : kO σ d 3) (hk : k = 3 ∨ k = 7) (hv : lbLo 3 k ≤ v ∧ v ≤ lbHi nu 3 k) (hr : rng v)
    (hC : ∀ p, gP σ d 0 = some p → ((N (10 * gq p + 1) : Nat) : Int) + (N (10 * gq p + 2) : Nat) ≤ (if k = 7 then v else gI σ d 7) + (if (if k = 3 then v else gI σ d 3) = 0 then ((N 5 : Nat) : Int) else 4000)) : IV (pI σ d k v) pl gq ci gr nc ot LL N nu := by
  obtain ⟨i1, i2, i3, i4, i5, i6, i7, own, i8⟩ := id h
  have s : Sk [195, 199] gr σ (pI σ d k v) := Sk.pI (by rcases hk with e | e <;> subst e <;> rw [fcdO hd (by decide)] <;> decide)
  refine ⟨i1.pI (fun _ => by rw [labO hd (by decide)]; exact hv), i2.sk s (by decide), ?_, i4.sk i8 s (by decide), i5.sk i1 s (by decide), i6.sk s rfl rfl (by decide), ⟨RG.pI i7.1 hr, i7.2.sk s (by decide)⟩, own, i8.sk s (by decide)⟩
  obtain ⟨a1, a2, a3, a4, a5⟩ := i3
  refine ⟨fun w hw => ⟨(a1 w hw).1, ?_⟩, fun r hr => ?_, fun e he p q hp hq => ?_, a4, fun p hp => ?_⟩
  · rw [gI_pI, up2_n _ _ (fun z => absurd z.1 (hw.ne hd (by decide)))]; exact (a1 w hw).2
  · rw [gI_pI, up2_n _ _ (fun z => absurd z.1 (hr.ne hd (by decide)))]; exact a2 r hr
  · have := h.un he hd rfl; subst this
    obtain ⟨b1, b2, b3⟩ := a3 e hd p q hp hq
    refine ⟨b1, ?_, b3⟩
    have c := hC p hp
    rcases hk with z | z <;> subst z
    · rw [gI_pI, up2_s, up2_n _ _ (fun z => absurd z.2 (by decide))]; simpa using c
    · rw [gI_pI, up2_s, up2_n _ _ (fun z => absurd z.2 (by decide))]; simpa using c
  · rw [gI_pI, up2_n _ _ (fun z => absurd z.1 (hp.ne hd (by decide)))]; exact a5 p hp
/-- what may be more for a while -/
theorem IV.set5 (h : IV σ pl gq ci gr nc ot LL N nu) (m : Nat) (hC : ∀ d p, kO σ d 3 → gP σ d 0 = some p → ((N (10 * gq p + 1) : Nat) : Int) + (N (10 * gq p + 2) : Nat) ≤ gI σ d 7 + (if gI σ d 3 = 0 then (m : Int) else 4000)) : ∃ N9, IV σ pl gq ci gr nc ot LL N9 nu ∧ (∀ g, g ≠ 5 → N9 g = N g) ∧ N9 5 = m := by
  obtain ⟨i1, i2, i3, i4, i5, i6, i7, i8⟩ := h
  have u : ∀ k, k ≠ 5 → up1 N 5 m k = N k := fun k q => up1_n _ _ q
  have u5 : up1 N 5 m 5 = m := up1_s _ _ _
  refine ⟨up1 N 5 m, ⟨i1, i2, ?_, ?_, i5, ?_, ⟨i7.1, ?_⟩, i8⟩, u, u5⟩
  · obtain ⟨a1, a2, a3, a4, a5⟩ := i3
    refine ⟨fun w hw => ⟨(a1 w hw).1, ?_⟩, fun r hr => ?_, fun e he p q hp hq => ?_, ?_, fun p hp => ?_⟩
    · rw [u _ (by omega), u _ (by omega)]; exact (a1 w hw).2
    · rw [u _ (by omega)]; exact a2 r hr
    · obtain ⟨b1, b2, b3⟩ := a3 e he p q hp hq
      have c := hC e p he hp
      rw [u5, u _ (by omega), u _ (by omega), u _ (by omega), u _ (by omega)]; exact ⟨b1, c, b3⟩
    · rw [u _ (by decide), u _ (by decide), u _ (by decide), u _ (by decide), u _ (by decide), u _ (by decide), u _ (by decide), u _ (by decide), u _ (by decide), u _ (by decide), u _ (by decide), u _ (by decide)]; exact a4
    · have z := a5 p hp
      rw [u _ (by decide), u _ (by decide), u _ (by decide), u _ (by decide), u _ (by decide), u _ (by decide), u _ (by decide), u _ (by decide), u _ (by decide), u _ (by decide), u _ (by decide), u _ (by decide), u _ (by decide), u _ (by decide), u _ (by decide), u _ (by decide)]; exact z
  · obtain ⟨a1, a2, a3, a4, a5, a6, a7, a8⟩ := i4
    exact ⟨a1, a2, fun g hg => by rw [u g (by omega)]; exact a3 g hg, a4, a5, a6, a7, by rw [u 2 (by decide), u 1 (by decide)]; exact a8⟩
  · unfold SU at i6 ⊢; rw [u 2 (by decide)]; exact i6
  · have := i7.2; unfold SJ at this ⊢; rw [u 3 (by decide)]; exact this
theorem Hn.n5 {D G E : List Nat} {LL1 : Nat → List Nat} {N1 N9 : Nat → Nat} (h : Hn D G E gq LL LL1 N N1) (hN : ∀ g, g ≠ 5 → N9 g = N1 g) (h5 : 5 ∈ G) : Hn D G E gq LL LL1 N N9 := ⟨h.1, h.2.1, fun g q a b c => by
  rw [hN g (fun w => q (by rw [w]; exact h5))]; exact h.2.2 g q a b c⟩
theorem IV.up5 (h : IV σ pl gq ci gr nc ot LL N nu) (m : Nat) (h5 : N 5 ≤ m) : ∃ N9, IV σ pl gq ci gr nc ot LL N9 nu ∧ (∀ g, g ≠ 5 → N9 g = N g) ∧ N9 5 = m := h.set5 m (fun d p hd hp => by
  obtain ⟨s, es, _⟩ := P_3_1 h.1 hd
  have k := (h.dk hd hp es).2.1
  by_cases z : gI σ d 3 = 0
  · rw [if_pos z] at k ⊢; omega
  · rw [if_neg z] at k ⊢; exact k)
theorem IV.dn5 (h : IV σ pl gq ci gr nc ot LL N nu) (hd : kO σ d 3) (hp : gP σ d 0 = some p) (hz : N (10 * gq p + 1) = 0 ∧ N (10 * gq p + 2) = 0) : ∃ N9, IV σ pl gq ci gr nc ot LL N9 nu ∧ (∀ g, g ≠ 5 → N9 g = N g) ∧ N9 5 = 0 := h.set5 0 (fun d' p' hd' hp' => by
  have := h.un hd' hd rfl; subst this
  rw [hp] at hp'; cases hp'
  have := I_3_7 h.1 hd
  by_cases z : gI σ d' 3 = 0
  · rw [if_pos z]; omega
  · rw [if_neg z]; omega)
theorem IV.op0 (h : IV σ pl gq ci gr nc ot LL N nu) (hd : kO σ d 3) (h5 : N 5 = 8000) : IV (pI σ d 3 0) pl gq ci gr nc ot LL N nu := h.dput hd (Or.inl rfl) (show (-2147483648 : Int) ≤ 0 ∧ (0 : Int) ≤ 2147483647 by decide) (by unfold rng; omega) (fun p hp => by
  obtain ⟨s, es, _⟩ := P_3_1 h.1 hd
  have k := (h.dk hd hp es).2.1
  rw [if_neg (by decide), if_pos rfl, if_pos rfl, h5]
  rw [h5] at k
  revert k; split <;> intro k <;> omega)
/-- both arrays of parts change places -/
theorem IV.swp (h : IV σ pl gq ci gr nc ot LL N nu) (hd : kO σ d 3) (hp : gP σ d 0 = some p) (hs : gP σ d 1 = some s) (hC : ((N (10 * gq s + 1) : Nat) : Int) + (N (10 * gq s + 2) : Nat) ≤ gI σ d 7 + (if gI σ d 3 = 0 then ((N 5 : Nat) : Int) else 4000)) (hC2 : N (10 * gq p + 1) + N (10 * gq p + 2) ≤ 8000) : IV (pP (pP σ d 1 (some p)) d 0 (some s)) pl gq ci gr nc ot LL N nu := by
  obtain ⟨i1, i2, i3, i4, i5, i6, i7, own, i8⟩ := id h
  have t0 := T_3_0 i1 hd hp
  have t1 := T_3_1 i1 hd hs
  have k0 : kO σ p 120 := i1.kd hd rfl hp rfl
  have k1 : kO σ s 120 := i1.kd hd rfl hs rfl
  have s1 : Sk [192, 193] gr σ (pP σ d 1 (some p)) := Sk.pP (by rw [fcdO hd (by decide)]; decide)
  have s2 : Sk [192, 193] gr (pP σ d 1 (some p)) (pP (pP σ d 1 (some p)) d 0 (some s)) := Sk.pP (by rw [fcdO (show kO (pP σ d 1 (some p)) d 3 from hd) (by decide)]; decide)
  have a1 : SA (pP σ d 1 (some p)) gq ci gr nu := i1.pP (fun _ => by simp) (fun b e => by cases e; rw [hd.2]; exact t0) (fun _ b e => by cases e; rw [hd.2]; exact k0)
  have a2 : SA (pP (pP σ d 1 (some p)) d 0 (some s)) gq ci gr nu := a1.pP (fun _ => by simp) (fun b e => by cases e; rw [show gk (pP σ d 1 (some p)) d = 3 from hd.2]; exact t1) (fun _ b e => by cases e; rw [show gk (pP σ d 1 (some p)) d = 3 from hd.2]; exact k1)
  refine ⟨a2, (i2.sk s1 (by decide)).sk s2 (by decide), ?_, (i4.sk i8 s1 (by decide)).sk (i8.sk s1 (by decide)) s2 (by decide), (i5.sk i1 s1 (by decide)).sk a1 s2 (by decide), (i6.sk s1 rfl rfl (by decide)).sk s2 rfl rfl (by decide), ⟨i7.1, (i7.2.sk s1 (by decide)).sk s2 (by decide)⟩, own, (i8.sk s1 (by decide)).sk s2 (by decide)⟩
  obtain ⟨b1, b2, b3, b4, b5⟩ := i3
  refine ⟨b1, b2, fun e he p' s' hp' hs' => ?_, b4, b5⟩
  have := h.un (show kO σ e 3 from he) hd rfl; subst this
  have ep : p' = s := by rw [gP_pP, up2_s] at hp'; cases hp'; rfl
  have es : s' = p := by rw [gP_pP, up2_n _ _ (fun z => absurd z.2 (by decide)), gP_pP, up2_s] at hs'; cases hs'; rfl
  subst ep es
  obtain ⟨c1, c2, c3, c4⟩ := b3 e hd s' p' hp hs
  exact ⟨by omega, hC, by omega, by omega⟩
theorem sc_part {d p s G : Nat} (h : IV σ pl gq ci gr nc ot LL N nu) (hd : kO σ d 3) (hp : gP σ d 0 = some p) (hs : gP σ d 1 = some s) (hG : G = 10 * gq p + 1 ∨ G = 10 * gq p + 2) (hN : NF [G, 1] N N') (h1 : N' G = N G + 1) (h5 : N 5 = 0) (hb : gI σ d 7 ≤ 4000) (hr : ((N (10 * gq p + 1) : Nat) : Int) + (N (10 * gq p + 2) : Nat) + 1 ≤ gI σ d 7 + (if gI σ d 3 = 0 then (0 : Int) else 4000)) : SC σ gq N' := by
  have k := h.dk hd hp hs
  refine h.2.2.1.part hd hp hs (fun v hv => h.un hv hd rfl) hG hN h1 (by rw [h5]; exact hr) ?_
  have : ((N (10 * gq p + 1) : Nat) : Int) + (N (10 * gq p + 2) : Nat) + 1 ≤ 8000 := by
    revert hr; split <;> intro hr <;> omega
  omega
theorem sc_part2 {d p s T G0 G1 : Nat} (h : IV σ pl gq ci gr nc ot LL N nu) (hd : kO σ d 3) (hp : gP σ d 0 = some p) (hs : gP σ d 1 = some s) (hT : gq p = T) (hG : (G0 = 10 * T + 1 ∧ G1 = 10 * T + 2) ∨ (G0 = 10 * T + 2 ∧ G1 = 10 * T + 1)) (hN : NF [G0, 1] N N') (h1 : N' G0 = N G0 + 1) (h5 : N 5 = 0) (hb : gI σ d 7 ≤ 4000) (hr : ((N G0 : Nat) : Int) + (N G1 : Nat) + 1 ≤ gI σ d 7 + (if gI σ d 3 = 0 then (0 : Int) else 4000)) : SC σ gq N' := by
  subst hT
  rcases hG with ⟨e1, e2⟩ | ⟨e1, e2⟩
  · subst e1; subst e2; exact sc_part h hd hp hs (Or.inl rfl) hN h1 h5 hb hr
  · subst e1; subst e2; exact sc_part h hd hp hs (Or.inr rfl) hN h1 h5 hb (by omega)
/-- a task that doesn't count now -/
theorem IV.wK (h : IV σ pl gq ci gr nc ot LL N nu) (ht : kO σ t 10) (hl : gq t = 1 → nu 15 ≤ ci t) (hk : k = 0 ∨ k = 11 ∨ k = 12 ∨ k = 14 ∨ k = 15) (hv : lbLo 10 k ≤ v ∧ v ≤ lbHi nu 10 k) : IV (pI σ t k v) pl gq ci gr nc ot LL N nu := by
  obtain ⟨i1, i2, i3, i4, i5, i6, i7, own, i8⟩ := id h
  have kk : (10 < 100 ∧ 10 ≠ 1 ∧ k < 64) := ⟨by decide, by decide, by omega⟩
  have s : Sk [640, 651, 652, 654, 655] gr σ (pI σ t k v) := Sk.pI (by rw [fcdO ht kk]; rcases hk with e | e | e | e | e <;> subst e <;> decide)
  have oo : ∀ a j l, kO σ a l → l ≠ 10 → gI (pI σ t k v) a j = gI σ a j := fun a j l ha hl => by rw [gI_pI, up2_n _ _ (fun z => absurd z.1 (ha.ne ht hl))]
  refine ⟨i1.pI (fun _ => by rw [labO ht (by decide)]; exact hv), ?_, i3.sk s (by decide), ?_, i5.sk i1 s (by decide), i6.sk s rfl rfl (by decide), ⟨RG.pI i7.1 (lb_rng h.nu2.1 h.nu2.2.1 h.nu2.2.2 hv), i7.2.sk s (by decide)⟩, own, i8.sk s (by decide)⟩
  · obtain ⟨a1, a2, a3, a4, a5, a6, ⟨r0, x1, z1, z2⟩, a8⟩ := i2
    refine ⟨a1, a2, a3, fun c hc hi => ?_, fun r hr t' ht' q hi => ?_, a6, ⟨r0, x1, by rw [oo r0 10 9 x1 (by decide)]; exact z1, by rw [oo r0 11 9 x1 (by decide)]; exact z2⟩, a8⟩
    · rw [oo c _ 2 hc (by decide), oo c _ 2 hc (by decide), oo c _ 2 hc (by decide)]; exact a4 c hc hi
    · rw [oo r 10 9 hr (by decide)] at hi
      rw [oo r 11 9 hr (by decide)]
      by_cases z : t' = t
      · exfalso; subst z
        have := hl q
        have := h.un (show kO σ r 9 from hr) x1 rfl; subst this
        omega
      · have ot : ∀ j, gI (pI σ t k v) t' j = gI σ t' j := fun j => by rw [gI_pI, up2_n _ _ (fun y => z y.1)]
        rw [ot, ot, ot, ot, ot]; exact a5 r hr t' ht' q hi
  · obtain ⟨a1, a2, a3, a4, a5, a6, a7, a8⟩ := i4
    refine ⟨a1, a2, a3, a4, a5, fun x hx hL => ?_, fun x hx hq d hd => ?_, a8⟩
    · obtain ⟨p1, p2, p3, p4, p5, p6, p7⟩ := a6 x hx hL
      refine ⟨p1, fun w r hr => by rw [oo r 10 9 hr (by decide)]; exact p2 w r hr, fun w r hr => by rw [oo r 11 9 hr (by decide)]; exact p3 w r hr, p4, p5, p6, fun w t' ht' q hc => ?_⟩
      by_cases z : t' = t
      · exfalso; subst z
        have := hl q
        have := h.pl15 (show kO σ x 1 from hx) hL (by omega)
        omega
      · rw [gI_pI, up2_n _ _ (fun y => z y.1)]; exact p7 w t' ht' q hc
    · rw [oo d 3 0 (i8.2.2.1 x d hd).2 (by decide)]; exact a7 x hx hq d hd
end EMS
theorem hd_nil {v : Option Nat} {B : List Nat} (h : v = B.head?) (e : v = none) : B.length = 0 := by
  cases B with
  | nil => rfl
  | cons x y => rw [e] at h; cases h
theorem wr_id {x : Int} (h : rng x) : wr x = x := by
  unfold wr; unfold rng at h; exact i32_toInt ⟨by omega, by omega⟩
theorem IV.held {σ : Sg} {gq ci gr nc N nu : Nat → Nat} {ot : Nat → Nat → Int} {LL : Nat → List Nat} {pl d : Nat} {v : Int} (h : IV σ pl gq ci gr nc ot LL N nu) (hd : kO σ d 3) (hv : gI σ d 7 ≤ v ∧ v ≤ 4000) : IV (pI σ d 7 v) pl gq ci gr nc ot LL N nu := by
  have q := I_3_7 h.1 hd
  refine h.dput hd (Or.inr rfl) (show (0 : Int) ≤ v ∧ v ≤ 4000 by omega) (by unfold rng; omega) (fun p hp => ?_)
  obtain ⟨s, es, _⟩ := P_3_1 h.1 hd
  have k := (h.dk hd hp es).2.1
  rw [if_pos rfl, show (if (7 : Nat) = 3 then v else gI σ d 3) = gI σ d 3 from if_neg (by decide)]; omega

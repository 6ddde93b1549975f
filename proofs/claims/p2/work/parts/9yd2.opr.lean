/-! an operator that is read -/
/-- a keyword that is read is one of them -/
def KV (σ : Sg) (th : Nat) : Prop := gI σ th 3 = 2 → 0 ≤ (gJ σ th 4).toInt ∧ (gJ σ th 4).toInt ≤ 22
def OPR (σ σ' : Sg) (gq : Nat → Nat) (q c o : Nat) : Prop :=
  ((0 ≤ gI σ' o 6 ∧ gI σ' o 6 ≤ 11) ∧ (-1 ≤ gI σ' o 7 ∧ gI σ' o 7 < (c : Int)) ∧ (-1 ≤ gI σ' o 8 ∧ gI σ' o 8 < (c : Int)) ∧ (1 ≤ gI σ' o 6 → 0 ≤ gI σ' o 7) ∧
  (gI σ' o 6 = 3 ∨ gI σ' o 6 = 6 ∨ gI σ' o 6 = 7 → 0 ≤ gI σ' o 8) ∧ (gI σ' o 6 = 4 ∨ gI σ' o 6 = 5 → gI σ' o 4 ≤ 4) ∧ (gI σ' o 6 = 0 ∨ gI σ' o 6 = 11 → gI σ' o 9 ≤ 3) ∧ (gI σ' o 6 = 0 → gI σ' o 7 = -1 ∧ gI σ' o 8 = -1)) ∧
  (gI σ' o 6 = 6 ∨ gI σ' o 6 = 7 → ∀ a, kO σ a 5 → gq a = 16 * q + (gI σ' o 7).toNat → gI σ a 3 ≤ gI σ' o 3) ∧
  (gI σ' o 6 = 10 → ∀ a, kO σ a 5 → gq a = 16 * q + (gI σ' o 7).toNat → gI σ a 3 ≤ 7)
def OUTR (σ σ' : Sg) (J o c : Nat) : Prop :=
  (gI σ' J 2 = gI σ J 2 ∧ ∀ a, gP σ J 3 = some a → ∀ i, gI σ' a i = gI σ a i) ∨
  (gI σ' o 6 = 11 ∧ gI σ' J 2 = gI σ J 2 + 1 ∧ ∀ a, gP σ J 3 = some a → (∀ i : Nat, (i : Int) < gI σ J 2 → gI σ' a i = gI σ a i) ∧ gI σ' a (gI σ J 2).toNat = (c : Int))
def ncq (q c u : Nat) : Nat → Nat := fun k => if k = 0 then q else if k = 1 then c else u
section OPRS
variable {σ σ' σ'' σ1 σ2 : Sg} {gq ci gr nc N N' nu nu' : Nat → Nat} {ot ot2 : Nat → Nat → Int} {LL LL' : Nat → List Nat} {pl o J q c u th a : Nat} {L : List Nat}
theorem KV.mov (h : KV σ th) (e3 : gI σ' th 3 = gI σ th 3) (e4 : gJ σ' th 4 = gJ σ th 4) : KV σ' th := fun e => by rw [e4]; exact h (by rw [← e3]; exact e)
theorem kv17 {x : Int64} (h : 0 ≤ x.toInt ∧ x.toInt ≤ 22) (e : x.toInt32.toInt = 17) : x = Int64.ofInt 17 := by
  have e2 : x.toInt32.toInt = x.toInt := by
    rw [Int64.toInt_toInt32]; exact Int.bmod_eq_of_le (by omega) (by omega)
  have e3 : x.toInt = (Int64.ofInt 17).toInt := by rw [← e2, e]; rfl
  exact Int64.toInt_inj.mp e3
theorem OPR.l (h : OPR σ1 σ' gq q c o) (ox : OX o σ σ1) (e : Ext σ σ1) (go : gq o = 16 * q + c) : OPR σ σ' gq q c o := by
  obtain ⟨h1, h6, h7⟩ := h
  refine ⟨h1, fun k a ka ga => ?_, fun k a ka ga => ?_⟩
  · have := ox a ka (fun z => by rw [z] at ga; omega) 3
    have := h6 k a (ka.up e) ga; omega
  · have := ox a ka (fun z => by rw [z] at ga; omega) 3
    have := h7 k a (ka.up e) ga; omega
theorem OPR.r (h : OPR σ σ1 gq q c o) (e : ∀ k, gI σ' o k = gI σ1 o k) : OPR σ σ' gq q c o := by
  unfold OPR at h ⊢; simp only [e]; exact h
theorem Fx.r1 (h : Fx L gr σ σ') (ka : kO σ a 100) (hg : gr a = 1) (hL : 8384 ∉ L) (k : Nat) : gI σ' a k = gI σ a k := (h.2 a ka.1 k (by rw [fcdI ka, hg]; exact hL)).1
theorem OUTR.fx (h : Fx L gr σ σ') (hL : 258 ∉ L ∧ 8384 ∉ L) (i : IV σ pl gq ci gr nc ot LL N nu) (kJ : kO σ J 4) : OUTR σ σ' J o c :=
  Or.inl ⟨(h.O kJ ⟨by decide, hL.1⟩).1, fun a ha k => h.r1 (i.1.kd kJ rfl ha rfl) (T_4_3 i.1 kJ ha).2.1 hL.2 k⟩
theorem OUTR.l (h : OUTR σ1 σ' J o c) (f : Fx L gr σ σ1) (hL : 258 ∉ L ∧ 259 ∉ L ∧ 8384 ∉ L) (i : IV σ pl gq ci gr nc ot LL N nu) (kJ : kO σ J 4) : OUTR σ σ' J o c := by
  have e2 := (f.O kJ (k := 2) ⟨by decide, hL.1⟩).1
  have e3 := (f.O kJ (k := 3) ⟨by decide, hL.2.1⟩).2.1
  have ea : ∀ a, gP σ J 3 = some a → ∀ k, gI σ1 a k = gI σ a k := fun a ha k => f.r1 (i.1.kd kJ rfl ha rfl) (T_4_3 i.1 kJ ha).2.1 hL.2.2 k
  rcases h with ⟨h1, h2⟩ | ⟨h1, h2, h3⟩
  · exact Or.inl ⟨by omega, fun a ha k => by rw [h2 a (by rw [e3]; exact ha) k]; exact ea a ha k⟩
  · refine Or.inr ⟨h1, by omega, fun a ha => ?_⟩
    obtain ⟨x1, x2⟩ := h3 a (by rw [e3]; exact ha)
    rw [e2] at x1 x2
    exact ⟨fun k hk => by rw [x1 k hk]; exact ea a ha k, x2⟩
theorem OUTR.r (h : OUTR σ σ1 J o c) (e2 : gI σ' J 2 = gI σ1 J 2) (e6 : gI σ' o 6 = gI σ1 o 6) (ea : ∀ a, gP σ J 3 = some a → ∀ k, gI σ' a k = gI σ1 a k) : OUTR σ σ' J o c := by
  rcases h with ⟨h1, h2⟩ | ⟨h1, h2, h3⟩
  · exact Or.inl ⟨by omega, fun a ha k => by rw [ea a ha k]; exact h2 a ha k⟩
  · refine Or.inr ⟨by omega, by omega, fun a ha => ?_⟩
    obtain ⟨x1, x2⟩ := h3 a ha
    exact ⟨fun k hk => by rw [ea a ha k]; exact x1 k hk, by rw [ea a ha]; exact x2⟩
/-- nothing is read yet -/
theorem SO.nul (i : IV σ pl gq ci gr nc ot LL N nu) (kJ : kO σ J 4) (gJ : gq J = q) (e1 : gI σ J 1 = 0) (e2 : gI σ J 2 = 0) : SO σ gq gr (ncq q 0 0) ot2 := by
  refine ⟨⟨by simp [ncq], by simp [ncq], by simp [ncq]⟩, fun k hk => absurd hk (by simp [ncq]), fun k hk => absurd hk (by simp [ncq]), fun _ _ k hk => absurd hk (by simp [ncq]), fun J' hJ' hq => ?_⟩
  have e : J' = J := i.unq hJ' kJ rfl rfl (by rw [hq, gJ]; rfl)
  subst e
  exact ⟨e1, e2, fun _ _ k hk => absurd hk (by simp [ncq])⟩
/-- one operator more -/
theorem SO.step (i : IV σ pl gq ci gr nc ot LL N nu) (i' : IV σ' pl gq ci gr nc ot LL' N' nu') (h : SO σ gq gr (ncq q c u) ot2) (kJ : kO σ J 4) (gJ : gq J = q) (hc : c < 16) (ko : kO σ o 5) (go : gq o = 16 * q + c) (x : Ext σ σ') (ox : OX o σ σ') (op : OPR σ σ' gq q c o) (ou : OUTR σ σ' J o c) (e1 : gI σ' J 1 = (c : Int) + 1) (e3 : gP σ' J 3 = gP σ J 3) : ∃ ot' u', SO σ' gq gr (ncq q (c + 1) u') ot' := by
  obtain ⟨⟨_, _, b0⟩, b2, b3, b4, b5⟩ := h
  have n1 : ncq q c u 1 = c := rfl
  have n2 : ncq q c u 2 = u := rfl
  have n0 : ncq q c u 0 = q := rfl
  rw [n2] at b0 b3 b5; rw [n1] at b2 b3 b4 b5; rw [n0] at b4 b5
  obtain ⟨c1, c2, c3⟩ := b5 J kJ gJ
  obtain ⟨ar, ear, _⟩ := P_4_3 i.1 kJ
  have kar : kO σ ar 100 := i.1.kd kJ rfl ear rfl
  have r2 := I_4_2 i'.1 (kJ.up x)
  have kO' := ko.up x
  have r3 := I_5_3 i'.1 kO'; have r4 := I_5_4 i'.1 kO'; have r9 := I_5_9 i'.1 kO'
  obtain ⟨oa, eoa, foa⟩ := P_4_0 i.1 kJ
  have koa : kO σ oa 115 := i.1.kd kJ rfl eoa rfl
  have adr : ∀ j, j < 16 → ∃ b, kO σ b 5 ∧ gq b = 16 * q + j := fun j hj => by
    obtain ⟨b, eb⟩ := P_115 i.1 koa (k := j) hj
    have fb := T_115 i.1 koa eb
    exact ⟨b, i.1.kd koa rfl eb rfl, by omega⟩
  have hU : ∃ u', gI σ' J 2 = ((u' : Nat) : Int) ∧ ∀ k, k < u' → 0 ≤ gI σ' ar k ∧ gI σ' ar k < (c : Int) + 1 ∧ ((gI σ' ar k).toNat < c ∧ ot2 (gI σ' ar k).toNat 6 = 11 ∨ (gI σ' ar k).toNat = c ∧ gI σ' o 6 = 11) := by
    rcases ou with ⟨o1, o2⟩ | ⟨o1, o2, o3⟩
    · refine ⟨u, by rw [o1]; exact c2, fun k hk => ?_⟩
      have := b3 k hk
      rw [o2 ar ear k, c3 ar ear k hk]
      exact ⟨this.1, by omega, Or.inl ⟨by omega, this.2.2⟩⟩
    · obtain ⟨x1, x2⟩ := o3 ar ear
      refine ⟨u + 1, by rw [o2, c2]; simp, fun k hk => ?_⟩
      by_cases w : k < u
      · have := b3 k w
        rw [x1 k (by rw [c2]; omega), c3 ar ear k w]
        exact ⟨this.1, by omega, Or.inl ⟨by omega, this.2.2⟩⟩
      · have w : k = u := by omega
        subst w
        rw [c2, Int.toNat_natCast] at x2
        rw [x2]
        exact ⟨by omega, by omega, Or.inr ⟨by omega, o1⟩⟩
  obtain ⟨u', hu2, hu⟩ := hU
  obtain ⟨⟨p1, p2, p3, p4, p5, p8, p9, p0⟩, p6, p7⟩ := op
  let ot' : Nat → Nat → Int := fun i k => if i = c then gI σ' o k else if i = 16 then gI σ' ar k else ot2 i k
  have tc : ∀ k, ot' c k = gI σ' o k := fun k => if_pos rfl
  have t16 : ∀ k, ot' 16 k = gI σ' ar k := fun k => by
    show (if 16 = c then _ else if 16 = 16 then _ else _) = _
    rw [if_neg (by omega), if_pos rfl]
  have tl : ∀ j k, j < c → ot' j k = ot2 j k := fun j k hj => by
    show (if j = c then _ else if j = 16 then _ else _) = _
    rw [if_neg (by omega), if_neg (by omega)]
  have wd : ∀ j, j < c → ∃ b, kO σ b 5 ∧ gq b = 16 * q + j ∧ gI σ b 3 = ot2 j 3 := fun j hj => by
    obtain ⟨b, kb, fb⟩ := adr j (by omega)
    exact ⟨b, kb, fb, b4 b kb j hj fb 3 (by decide) (by decide)⟩
  refine ⟨ot', u', ⟨by show c + 1 ≤ 16; omega, by show c + 1 ≤ 16; omega, by show u' ≤ 4; omega⟩, fun j hj => ?_, fun j hj => ?_, fun b kb j hj fb k k1 k2 => ?_, fun J' hJ' hq' => ?_⟩
  · have hj : j < c + 1 := hj
    by_cases w : j < c
    · have q1 := b2 j w
      unfold OpOK at q1 ⊢
      have f7 := q1.2.1
      rw [tl j 6 w, tl j 7 w, tl j 8 w, tl j 3 w, tl j 4 w, tl j 9 w, tl (ot2 j 7).toNat 3 (by omega)]
      exact q1
    · have w : j = c := by omega
      subst w
      unfold OpOK
      simp only [tc]
      refine ⟨p1, p2, p3, p4, p5, fun k => ?_, fun k => ?_, p8, p9, r3, r4, r9.1, p0⟩
      · have f0 := p4 (by omega)
        obtain ⟨b, kb, fb, wb⟩ := wd (gI σ' o 7).toNat (by omega)
        rw [tl _ 3 (by omega), ← wb]; exact p6 k b kb fb
      · have f0 := p4 (by omega)
        obtain ⟨b, kb, fb, wb⟩ := wd (gI σ' o 7).toNat (by omega)
        rw [tl _ 3 (by omega), ← wb]; exact p7 k b kb fb
  · have hj : j < u' := hj
    obtain ⟨z1, z2, z3⟩ := hu j hj
    rw [t16 j]
    refine ⟨z1, by show gI σ' ar j < ((c + 1 : Nat) : Int); omega, ?_⟩
    rcases z3 with ⟨z4, z5⟩ | ⟨z4, z5⟩
    · rw [tl _ 6 z4]; exact z5
    · rw [z4, tc]; exact z5
  · have hj : j < c + 1 := hj
    have fb : gq b = 16 * q + j := fb
    obtain ⟨b', kb', fb'⟩ := adr j (by omega)
    have e : b = b' := i'.unq kb (kb'.up x) rfl rfl (by omega)
    subst e
    by_cases w : j < c
    · rw [tl j k w, ox b kb' (fun z => by rw [z] at fb; omega) k]; exact b4 b kb' j w fb k k1 k2
    · have w : j = c := by omega
      subst w
      have e2 : b = o := i.unq kb' ko rfl rfl (by omega)
      subst e2; rw [tc]
  · have e : J' = J := i'.unq hJ' (kJ.up x) rfl rfl (by rw [hq', gJ]; rfl)
    subst e
    refine ⟨by rw [e1]; show (c : Int) + 1 = ((c + 1 : Nat) : Int); simp, hu2, fun a ha k hk => ?_⟩
    rw [e3, ear] at ha; cases ha
    rw [t16 k]
end OPRS
theorem OUTR.mk {σ s22 s25 s28 s30 : Sg} {gq ci gr nc N nu : Nat → Nat} {ot : Nat → Nat → Int} {LL : Nat → List Nat} {pl o J c b : Nat} {L : List Nat} {v9 : Int} (i : IV σ pl gq ci gr nc ot LL N nu) (kJ : kO σ J 4) (ko : kO σ o 5) (fz : Fx L gr σ s22) (hz : 257 ∉ L ∧ 258 ∉ L ∧ 259 ∉ L ∧ 8384 ∉ L) (e25 : s25 = pI s22 o 9 v9) (eb : gP s25 J 3 = some b) (e28 : s28 = pI s25 b (gI s25 J 2).toNat (gI s25 J 1)) (e30 : s30 = pI s28 J 2 (gI s28 J 2 + 1)) (c1 : gI σ J 1 = (c : Int)) (h0 : 0 ≤ gI σ J 2) (k6 : gI s30 o 6 = 11) : OUTR σ s30 J o c := by
  have x := fz.1
  have kJ2 := kJ.up x
  have ko2 := ko.up x
  have g1 := (fz.O kJ (k := 1) ⟨by decide, hz.1⟩).1
  have g2 := (fz.O kJ (k := 2) ⟨by decide, hz.2.1⟩).1
  have g3 := (fz.O kJ (k := 3) ⟨by decide, hz.2.2.1⟩).2.1
  have n25 : ∀ a k l, kO s22 a l → l ≠ 5 → gI s25 a k = gI s22 a k := fun a k l ha hl => by
    rw [e25, gI_pI, up2_n _ _ (fun z => absurd z.1 (ha.ne ko2 hl))]
  have eb0 : gP σ J 3 = some b := by rw [← g3, ← eb, e25]
  have kb : kO σ b 100 := i.1.kd kJ rfl eb0 rfl
  have kb2 := kb.up x
  have rb := (T_4_3 i.1 kJ eb0).2.1
  have j2 : gI s25 J 2 = gI σ J 2 := by rw [n25 J 2 4 kJ2 (by decide)]; exact g2
  have j1 : gI s25 J 1 = gI σ J 1 := by rw [n25 J 1 4 kJ2 (by decide)]; exact g1
  have nb : J ≠ b := kJ2.ne kb2 (by decide)
  have j28 : gI s28 J 2 = gI σ J 2 := by rw [e28, gI_pI, up2_n _ _ (fun z => nb z.1)]; exact j2
  have a30 : ∀ k, gI s30 b k = gI s28 b k := fun k => by rw [e30, gI_pI, up2_n _ _ (fun z => nb z.1.symm)]
  refine Or.inr ⟨k6, by rw [e30, gI_pI, up2_s, j28], fun a ha => ?_⟩
  rw [eb0] at ha; cases ha
  refine ⟨fun k hk => ?_, ?_⟩
  · rw [a30, e28, gI_pI, up2_n _ _ (fun z => by have z2 := z.2; rw [j2] at z2; omega), n25 b k 100 kb2 (by decide)]
    exact fz.r1 kb rb hz.2.2.2 k
  · rw [a30, e28, gI_pI, j2, up2_s, j1, c1]
theorem NC.nx {nu nu' : Nat → Nat} (h : NC nu nu') : NCX nu nu' := ⟨fun k _ b c => h k b c, by have := h 5 (by decide) (by decide); omega⟩
/-! an array is filled -/
section FIL
variable {σ : Sg} {gq ci gr nc N nu : Nat → Nat} {ot : Nat → Nat → Int} {LL : Nat → List Nat} {pl ar : Nat} {v1 : Int} {v0 : Option Nat} {Q : Sg → Unit → Prop} {X : Sg → String → Prop} {L : List Nat}
theorem i_fillG (iσ : IV σ pl gq ci gr nc ot LL N nu) (hv0 : v0 = some ar) (kar : kO σ ar 100) (bn : gn σ ar ≤ 1000) (hL : fcd σ gr ar 0 ∈ L) (hw : ∀ σ1 k, IV σ1 pl gq ci gr nc ot LL N nu → kO σ1 ar 100 → IV (pI σ1 ar k v1) pl gq ci gr nc ot LL N nu) (hQ : ∀ (σ' : Sg) (r : Unit), IV σ' pl gq ci gr nc ot LL N nu → Fx L gr σ σ' → True → Q σ' r) : wpC_J7_fill_53178 v0 v1 σ Q X := by
  subst hv0
  unfold wpC_J7_fill_53178 wC_J7_fill_53178_0
  refine ⟨ar, rfl, fun _ => ?_⟩
  have main : ∀ (m : Nat) (σ1 : Sg) (v2 : Int), IV σ1 pl gq ci gr nc ot LL N nu → Fx L gr σ σ1 → gn σ1 = gn σ → gk σ1 = gk σ → gD σ1 = gD σ → 0 ≤ v2 → v2 + (m : Int) = (gn σ ar : Int) → wlC_J7_fill_53178_5 Q X (m + 1) σ1 (some ar) v1 v2 (gn σ ar : Int) := by
    intro m
    induction m with
    | zero =>
      intro σ1 v2 i1 f1 _ _ _ h0 h1
      show wC_J7_fill_53178_5 _ Q X σ1 (some ar) v1 v2 (gn σ ar : Int)
      unfold wC_J7_fill_53178_5
      rw [if_pos (by omega)]
      exact hQ σ1 () i1 f1 trivial
    | succ m ih =>
      intro σ1 v2 i1 f1 g1 g2 g3 h0 h1
      show wC_J7_fill_53178_5 (wlC_J7_fill_53178_5 Q X (m + 1)) Q X σ1 (some ar) v1 v2 (gn σ ar : Int)
      unfold wC_J7_fill_53178_5
      rw [if_neg (by omega)]
      unfold wC_J7_fill_53178_10
      have k1 := kar.up f1.1
      refine ⟨ar, rfl, fun _ => ⟨⟨h0, by rw [g1]; omega⟩, ?_⟩⟩
      intro σ6 e6
      refine ⟨by unfold rng; omega, ?_⟩
      have e : fcd σ1 gr ar v2.toNat = fcd σ gr ar 0 := by rw [fcdI k1, fcdI kar]
      exact ih σ6 (v2 + 1) (by rw [e6]; exact hw σ1 _ i1 k1) (f1.tr (Sk.fx (by rw [e6]; exact Sk.pI (by rw [e]; exact hL)))) (by rw [e6]; exact g1) (by rw [e6]; exact g2) (by rw [e6]; exact g3) (by omega) (by omega)
  exact ⟨gn σ ar + 1, main _ σ 0 iσ Fx.rf rfl rfl rfl (by omega) (by omega)⟩
theorem i_J7_fill_53178 (iσ : IV σ pl gq ci gr nc ot LL N nu) (hv0 : v0 = some ar) (kar : kO σ ar 100) (hg : gr ar = 0 ∧ gn σ ar ≤ 1000) (hv : rng v1) (hQ : ∀ (σ' : Sg) (r : Unit), IV σ' pl gq ci gr nc ot LL N nu → Fx [8320] gr σ σ' → True → Q σ' r) : wpC_J7_fill_53178 v0 v1 σ Q X :=
  i_fillG iσ hv0 kar hg.2 (by rw [fcdI kar, hg.1]; decide) (fun _ _ i k => i.wA0 k hg.1 hv) hQ
theorem i2_J7_fill_53178 (iσ : IV σ pl gq ci gr nc ot LL N nu) (hv0 : v0 = some ar) (kar : kO σ ar 100) (hg : gr ar = 2 ∧ gn σ ar ≤ 1000) (hv : 0 ≤ v1 ∧ v1 ≤ 64) (hQ : ∀ (σ' : Sg) (r : Unit), IV σ' pl gq ci gr nc ot LL N nu → Fx [8448] gr σ σ' → True → Q σ' r) : wpC_J7_fill_53178 v0 v1 σ Q X :=
  i_fillG iσ hv0 kar hg.2 (by rw [fcdI kar, hg.1]; decide) (fun _ _ i k => i.wA2 k hg.1 hv) hQ
end FIL

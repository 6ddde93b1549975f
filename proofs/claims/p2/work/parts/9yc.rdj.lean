/-! the job that is read -/
def NC (nu nu' : Nat → Nat) : Prop := ∀ k, k ≠ 13 → k ≠ 14 → nu' k = nu k
def NCX (nu nu' : Nat → Nat) : Prop := (∀ k, k ≠ 5 → k ≠ 13 → k ≠ 14 → nu' k = nu k) ∧ nu' 5 ≤ nu 5 + 1
theorem NC.rf {nu : Nat → Nat} : NC nu nu := fun _ _ _ => rfl
theorem NC.tr {nu nu1 nu2 : Nat → Nat} (h : NC nu nu1) (h2 : NC nu1 nu2) : NC nu nu2 := fun k a b => (h2 k a b).trans (h k a b)
theorem NC.x {nu nu1 nu2 : Nat → Nat} (h : NC nu nu1) (h2 : NCX nu1 nu2) : NCX nu nu2 := ⟨fun k a b c => (h2.1 k a b c).trans (h k b c), by have := h2.2; have := h 5 (by decide) (by decide); omega⟩
theorem NCX.bump {nu : Nat → Nat} : NCX nu (up1 nu 5 (nu 5 + 1)) := ⟨fun k q _ _ => up1_n _ _ q, by rw [up1_s]; exact Nat.le_refl _⟩
/-- of the operators only o may have changed -/
def OX (o : Nat) (σ σ' : Sg) : Prop := ∀ a, kO σ a 5 → a ≠ o → ∀ k, gI σ' a k = gI σ a k
section RDJ
variable {σ σ' σ'' : Sg} {gq ci gr nc N N' nu nu' : Nat → Nat} {ot : Nat → Nat → Int} {LL LL' : Nat → List Nat} {pl o J a b k t l : Nat} {v : Int}
theorem OX.rf : OX o σ σ := fun _ _ _ _ => rfl
theorem OX.tr (h : OX o σ σ') (h2 : OX o σ' σ'') (e : Ext σ σ') : OX o σ σ'' := fun a ha hn k => (h2 a (ha.up e) hn k).trans (h a ha hn k)
theorem OX.pI (ht : kO σ t l) (hl : l ≠ 5 ∨ t = o) : OX o σ (pI σ t k v) := fun a ha hn j => by
  rw [gI_pI, up2_n _ _ (fun z => by
    rcases hl with w | w
    · exact absurd z.1 (ha.ne ht (fun q => w q.symm))
    · exact hn (z.1.trans w))]
theorem OX.pJ {v : Int64} : OX o σ (pJ σ t k v) := fun _ _ _ _ => rfl
theorem OX.pP {v : Option Nat} : OX o σ (pP σ t k v) := fun _ _ _ _ => rfl
theorem OX.fx {L : List Nat} (h : Fx L gr σ σ') (hL : ∀ x ∈ L, x < 320 ∨ 384 ≤ x) (h2 : 20000 ∉ L) : OX o σ σ' := fun a ha _ k => by
  refine (h.2 a ha.1 k (fun q => ?_)).1
  unfold fcd at q
  rw [labO ha (by decide), if_neg (by decide), if_pos (by decide)] at q
  by_cases w : k < 64
  · rw [if_pos w] at q; have := hL _ q; omega
  · rw [if_neg w] at q; exact h2 q
/-- an operator of the job that doesn't count -/
theorem IV.wSp (h : IV σ pl gq ci gr nc ot LL N nu) (ho : kO σ o 5) (hq : ∀ i, i < nc 1 → gq o ≠ 16 * nc 0 + i) (hk : 3 ≤ k ∧ k ≤ 16) (hv : lbLo 5 k ≤ v ∧ v ≤ lbHi nu 5 k) : IV (pI σ o k v) pl gq ci gr nc ot LL N nu := by
  obtain ⟨i1, i2, i3, i4, i5, i6, i7, own, i8⟩ := id h
  have kk : (5 < 100 ∧ 5 ≠ 1 ∧ k < 64) := ⟨by decide, by decide, by omega⟩
  have s : Sk [323, 324, 325, 326, 327, 328, 329, 330, 331, 332, 333, 334, 335, 336] gr σ (pI σ o k v) := Sk.pI (by
    rw [fcdO ho kk]; simp only [List.mem_cons, List.mem_nil_iff, or_false]; omega)
  refine ⟨i1.pI (fun _ => by rw [labO ho (by decide)]; exact hv), i2.sk s (by decide), i3.sk s (by decide), i4.sk i8 s (by decide), ?_, i6.sk s rfl rfl (by decide), ⟨RG.pI i7.1 (lb_rng h.nu2.1 h.nu2.2.1 h.nu2.2.2 hv), i7.2.sk s (by decide)⟩, own, i8.sk s (by decide)⟩
  obtain ⟨b1, b2, b3, b4, b5⟩ := i5
  refine ⟨b1, b2, b3, fun o' ho' i hi hq' j j1 j2 => ?_, fun J hJ hqJ => ?_⟩
  · rw [gI_pI, up2_n _ _ (fun z => hq i hi (by rw [← z.1]; exact hq'))]; exact b4 o' ho' i hi hq' j j1 j2
  · obtain ⟨c1, c2, c3⟩ := b5 J hJ hqJ
    have nJ : ∀ j, gI (pI σ o k v) J j = gI σ J j := fun j => by rw [gI_pI, up2_n _ _ (fun z => absurd z.1 ((show kO σ J 4 from hJ).ne ho (by decide)))]
    refine ⟨by rw [nJ]; exact c1, by rw [nJ]; exact c2, fun x hx i hi => ?_⟩
    have kx : kO σ x 100 := i1.kd (show kO σ J 4 from hJ) rfl hx rfl
    rw [gI_pI, up2_n _ _ (fun z => absurd z.1 (kx.ne ho (by decide)))]; exact c3 x hx i hi
/-- how many operators, outputs the job has that doesn't count -/
theorem IV.wSj (h : IV σ pl gq ci gr nc ot LL N nu) (hJ : kO σ J 4) (hq : gq J ≠ nc 0) (hk : k = 1 ∨ k = 2) (hv : lbLo 4 k ≤ v ∧ v ≤ lbHi nu 4 k) : IV (pI σ J k v) pl gq ci gr nc ot LL N nu := by
  obtain ⟨i1, i2, i3, i4, i5, i6, i7, own, i8⟩ := id h
  have s : Sk [257, 258] gr σ (pI σ J k v) := Sk.pI (by rcases hk with e | e <;> subst e <;> rw [fcdO hJ (by decide)] <;> decide)
  refine ⟨i1.pI (fun _ => by rw [labO hJ (by decide)]; exact hv), i2.sk s (by decide), i3.sk s (by decide), i4.sk i8 s (by decide), ?_, i6.sk s rfl rfl (by decide), ⟨RG.pI i7.1 (lb_rng h.nu2.1 h.nu2.2.1 h.nu2.2.2 hv), i7.2.sk s (by decide)⟩, own, i8.sk s (by decide)⟩
  obtain ⟨b1, b2, b3, b4, b5⟩ := i5
  have oo : ∀ x j l, kO σ x l → l ≠ 4 → gI (pI σ J k v) x j = gI σ x j := fun x j l hx hl => by rw [gI_pI, up2_n _ _ (fun z => absurd z.1 (hx.ne hJ hl))]
  refine ⟨b1, b2, b3, fun o' ho' i hi hq' j j1 j2 => by rw [oo o' j 5 ho' (by decide)]; exact b4 o' ho' i hi hq' j j1 j2, fun J' hJ' hqJ => ?_⟩
  obtain ⟨c1, c2, c3⟩ := b5 J' hJ' hqJ
  have nJ : ∀ j, gI (pI σ J k v) J' j = gI σ J' j := fun j => by rw [gI_pI, up2_n _ _ (fun z => hq (by rw [← z.1]; exact hqJ))]
  refine ⟨by rw [nJ]; exact c1, by rw [nJ]; exact c2, fun x hx i hi => ?_⟩
  have kx : kO σ x 100 := i1.kd (show kO σ J' 4 from hJ') rfl hx rfl
  rw [oo x i 100 kx (by decide)]; exact c3 x hx i hi
/-- its outputs -/
theorem IV.wSo (h : IV σ pl gq ci gr nc ot LL N nu) (hJ : kO σ J 4) (hq : gq J ≠ nc 0) (ea : gP σ J 3 = some a) (hv : 0 ≤ v ∧ v ≤ 15) : IV (pI σ a k v) pl gq ci gr nc ot LL N nu := by
  obtain ⟨i1, i2, i3, i4, i5, i6, i7, own, i8⟩ := id h
  have ka : kO σ a 100 := i1.kd hJ rfl ea rfl
  have ta := T_4_3 i1 hJ ea
  have s : Sk [8384] gr σ (pI σ a k v) := Sk.pI (by rw [fcdI ka, ta.2.1]; decide)
  refine ⟨i1.pI (fun _ => by rw [labI ka, ta.2.1]; exact hv), i2.sk s (by decide), i3.sk s (by decide), i4.sk i8 s (by decide), ?_, i6.sk s rfl rfl (by decide), ⟨RG.pI i7.1 (by unfold rng; omega), i7.2.sk s (by decide)⟩, own, i8.sk s (by decide)⟩
  obtain ⟨b1, b2, b3, b4, b5⟩ := i5
  have oo : ∀ x j l, kO σ x l → l ≠ 100 → gI (pI σ a k v) x j = gI σ x j := fun x j l hx hl => by rw [gI_pI, up2_n _ _ (fun z => absurd z.1 (hx.ne ka hl))]
  refine ⟨b1, b2, b3, fun o' ho' i hi hq' j j1 j2 => by rw [oo o' j 5 ho' (by decide)]; exact b4 o' ho' i hi hq' j j1 j2, fun J' hJ' hqJ => ?_⟩
  obtain ⟨c1, c2, c3⟩ := b5 J' hJ' hqJ
  refine ⟨by rw [oo J' _ 4 hJ' (by decide)]; exact c1, by rw [oo J' _ 4 hJ' (by decide)]; exact c2, fun x hx i hi => ?_⟩
  have tx := T_4_3 i1 (show kO σ J' 4 from hJ') hx
  rw [gI_pI, up2_n _ _ (fun z => by rw [z.1] at tx; exact hq (by rw [← hqJ]; omega))]; exact c3 x hx i hi
/-- how long its programs are -/
theorem IV.wS7 (h : IV σ pl gq ci gr nc ot LL N nu) (hJ : kO σ J 4) (hv : 0 ≤ v ∧ v ≤ 6200) (hc : ∀ c, gP σ J 5 = some c → v ≤ (gn σ c : Int)) : IV (pI σ J 7 v) pl gq ci gr nc ot LL N nu := by
  obtain ⟨i1, i2, i3, i4, i5, i6, i7, own, i8⟩ := id h
  have s : Sk [263] gr σ (pI σ J 7 v) := Sk.pI (by rw [fcdO hJ (by decide)]; decide)
  refine ⟨i1.pI (fun _ => by rw [labO hJ (by decide)]; exact hv), i2.sk s (by decide), i3.sk s (by decide), i4.sk i8 s (by decide), i5.sk i1 s (by decide), ?_, ⟨RG.pI i7.1 (by unfold rng; omega), i7.2.sk s (by decide)⟩, own, i8.sk s (by decide)⟩
  obtain ⟨a1, a2, a3, a4, a5, a6⟩ := i6
  refine ⟨a1, a2, a3, a4, fun J' hJ' c hcc => ?_, a6⟩
  obtain ⟨x1, x2, x3, x4⟩ := a5 J' hJ' c hcc
  refine ⟨x1, x2, x3, ?_⟩
  by_cases w : J' = J
  · rw [w, gI_pI, up2_s]; exact hc c (by rw [← w]; exact hcc)
  · rw [gI_pI, up2_n _ _ (fun z => w z.1)]; exact x4
end RDJ
/-! numbers that are read -/
theorem ge64 {v : Int} {a : Int64} (r : rng v) (h : ¬ Int64.ofInt v < a) : a.toInt ≤ v := by
  unfold rng at r
  rw [Int64.lt_iff_toInt_lt, Int64.toInt_ofInt_of_le (by omega) (by omega)] at h
  omega
theorem le64 {v : Int} {a : Int64} (r : rng v) (h : ¬ Int64.ofInt v > a) : v ≤ a.toInt := by
  unfold rng at r
  have h : ¬ a < Int64.ofInt v := h
  rw [Int64.lt_iff_toInt_lt, Int64.toInt_ofInt_of_le (by omega) (by omega)] at h
  omega
theorem num_b {x : Int64} {a b : Int} (ha : 0 ≤ a ∧ a ≤ b ∧ b ≤ 1000) (h1 : ¬ x < Int64.ofInt a) (h2 : x ≤ Int64.ofInt b) : a ≤ x.toInt32.toInt ∧ x.toInt32.toInt ≤ b := by
  rw [Int64.lt_iff_toInt_lt, of_int (by omega)] at h1
  rw [Int64.le_iff_toInt_le, of_int (by omega)] at h2
  have e : x.toInt32.toInt = x.toInt := by
    rw [Int64.toInt_toInt32]; exact Int.bmod_eq_of_le (by omega) (by omega)
  rw [e]; omega
/-- operators that are laid -/
def JO (σ : Sg) (gq : Nat → Nat) (q c : Nat) (ot : Nat → Nat → Int) : Prop := (∀ i, i < c → OpOK ot i) ∧ ∀ o', kO σ o' 5 → ∀ i, i < c → gq o' = 16 * q + i → ∀ k, 3 ≤ k → k ≤ 16 → gI σ o' k = ot i k
section JOS
variable {σ σ' : Sg} {gq ci gr nc N N' nu nu' : Nat → Nat} {ot ot2 : Nat → Nat → Int} {LL LL' : Nat → List Nat} {pl o J q c : Nat}
theorem JO.ox (h : JO σ gq q c ot2) (i : IV σ pl gq ci gr nc ot LL N nu) (i' : IV σ' pl gq ci gr nc ot LL' N' nu') (kJ : kO σ J 4) (gJ : gq J = q) (hc : c ≤ 16) (go : gq o = 16 * q + c) (ox : OX o σ σ') (e : Ext σ σ') : JO σ' gq q c ot2 := by
  refine ⟨h.1, fun o' ko' j hj hq k k1 k2 => ?_⟩
  obtain ⟨ar, ear, far⟩ := P_4_0 i.1 kJ
  have kar : kO σ ar 115 := i.1.kd kJ rfl ear rfl
  obtain ⟨b, eb⟩ := P_115 i.1 kar (k := j) (by omega)
  have fb := T_115 i.1 kar eb
  have kb : kO σ b 5 := i.1.kd kar rfl eb rfl
  have e1 : o' = b := i'.unq ko' (kb.up e) rfl rfl (by omega)
  subst e1
  rw [ox o' kb (fun w => by rw [w] at hq; omega) k]; exact h.2 o' kb j hj hq k k1 k2
end JOS

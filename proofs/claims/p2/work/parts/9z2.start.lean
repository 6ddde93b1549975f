/-! a new house, as data -/
def hs1 : List Rc := dU (dU (fA [rN 12 9] 0 102 1500 0) 0 (uI 1 0)) 0 (uI 2 0)
def hs2 : List Rc := dU (fX6 (dN hs1 6 9) 2) 0 (uP 3 2)
def hs3 : List Rc := dU (fX4 (dN hs2 4 14) 4) 0 (uP 4 4)
def hs4 : List Rc := dU (fX4 (dN hs3 4 14) 82) 0 (uP 5 82)
def hs5 : List Rc := dU (fX8 (dN hs4 8 3) 160) 0 (uP 6 160)
def hs6 : List Rc := dU (fX9 (dN hs5 9 20) 162 160) 0 (uP 7 162)
def hsD : List Rc := dU (fX7 (dN hs6 7 7) 187 160) 0 (uP 8 187)
set_option maxRecDepth 100000 in
theorem hs_len : hs1.length = 2 ∧ hs2.length = 4 ∧ hs3.length = 82 ∧ hs4.length = 160 ∧ hs5.length = 162 ∧ hs6.length = 187 ∧ hsD.length = 213 := by decide +kernel
set_option maxRecDepth 100000 in
theorem hs_sz : sz hs1 ≤ 1600 ∧ sz hs2 ≤ 1600 ∧ sz hs3 ≤ 3800 ∧ sz hs4 ≤ 6000 ∧ sz hs5 ≤ 6300 ∧ sz hs6 ≤ 7200 ∧ sz hsD ≤ 8000 := by decide +kernel
set_option maxRecDepth 100000 in
theorem hs_r6 : ((dN hs5 9 20)[0]?).bind (fun r => rP r 6) = some 160 ∧ ((dN hs6 7 7)[0]?).bind (fun r => rP r 6) = some 160 := by decide +kernel
section STA
variable {σ σ' : Sg} {d : List Rc} {c0 s0 i j k n q a b th f p : Nat} {X : Sg → String → Prop} {Q : Sg → Unit → Prop}
theorem Rep.gP2 (R : Rep σ d c0 s0) (ha : (gD σ)[i]? = some a) (h : (d[i]?).bind (fun r => rP r k) = some j) : ∃ b, (gD σ)[j]? = some b ∧ gP σ a k = some b := by
  cases e : d[i]? with
  | none => rw [e] at h; cases h
  | some r =>
    rw [e] at h
    have h1 : rP r k = some j := h
    have lj : j < d.length := (R.2.2.2 i r e).1 k j h1
    obtain ⟨b, hb⟩ : ∃ b, (gD σ)[j]? = some b := ⟨_, List.getElem?_eq_getElem (by rw [R.1]; exact lj)⟩
    exact ⟨b, hb, R.gP1 ha e h1 hb⟩
theorem n_X12_init (R : Rep σ [rN 12 9] c0 s0) (hi : (gD σ)[0]? = some th) (hc : c0 + 300 ≤ BC ∧ s0 + 12000 ≤ BS) (hQ : ∀ σ', Rep σ' hsD c0 s0 → Pf σ σ' → Q σ' ()) : wp_X12_init th σ Q X := by
  obtain ⟨l1, l2, l3, l4, l5, l6, l7⟩ := hs_len
  obtain ⟨z1, z2, z3, z4, z5, z6, z7⟩ := hs_sz
  have c1 := hc.1
  have c2 := hc.2
  have zz : sz [rN 12 9] = 9 := rfl
  unfold wp_X12_init w_X12_init_0
  refine st_A R hi ⟨by show c0 + 1 + 1 ≤ BC; omega, by rw [zz]; omega⟩ (fun s1 R1 P1 => ?_)
  intro s2 e2 s3 e3
  have R3 : Rep s3 hs1 c0 s0 := (R1.pI e2 (P1 _ _ hi)).pI e3 (Pf.pI e2 _ _ (P1 _ _ hi))
  have P3 := (P1.tr (Pf.pI e2)).tr (Pf.pI e3)
  refine st_N (F := fX6 (dN hs1 6 9) hs1.length) (fun q s Q => wp_X6_init q s Q X) R3 (P3 _ _ hi) (by decide) ⟨by omega, by omega⟩ (fun q t R0 P0 a0 _ Q0 h0 => n_X6_init R0 a0 ⟨by rw [dN_len]; omega, by rw [dN_sz]; omega⟩ h0) (fun s4 R4 P4 => ?_)
  rw [l1] at R4
  have R4 : Rep s4 hs2 c0 s0 := R4
  have P14 := P3.tr P4
  refine st_N (F := fX4 (dN hs2 4 14) hs2.length) (fun q s Q => wp_X4_init q s Q X) R4 (P14 _ _ hi) (by decide) ⟨by omega, by omega⟩ (fun q t R0 P0 a0 _ Q0 h0 => n_X4_init R0 a0 (List.getElem?_eq_getElem (by rw [dN_len]; omega)) ⟨by rw [dN_len]; omega, by rw [dN_sz]; omega⟩ h0) (fun s5 R5 P5 => ?_)
  rw [l2] at R5
  have R5 : Rep s5 hs3 c0 s0 := R5
  have P15 := P14.tr P5
  refine st_N (F := fX4 (dN hs3 4 14) hs3.length) (fun q s Q => wp_X4_init q s Q X) R5 (P15 _ _ hi) (by decide) ⟨by omega, by omega⟩ (fun q t R0 P0 a0 _ Q0 h0 => n_X4_init R0 a0 (List.getElem?_eq_getElem (by rw [dN_len]; omega)) ⟨by rw [dN_len]; omega, by rw [dN_sz]; omega⟩ h0) (fun s6 R6 P6 => ?_)
  rw [l3] at R6
  have R6 : Rep s6 hs4 c0 s0 := R6
  have P16 := P15.tr P6
  refine st_N (F := fX8 (dN hs4 8 3) hs4.length) (fun q s Q => wp_X8_init q s Q X) R6 (P16 _ _ hi) (by decide) ⟨by omega, by omega⟩ (fun q t R0 P0 a0 _ Q0 h0 => n_X8_init R0 a0 ⟨by rw [dN_len]; omega, by rw [dN_sz]; omega⟩ h0) (fun s7 R7 P7 => ?_)
  rw [l4] at R7
  have R7 : Rep s7 hs5 c0 s0 := R7
  have P17 := P16.tr P7
  refine st_N (F := fX9 (dN hs5 9 20) hs5.length 160) (fun q s Q => wp_X9_init q (gP s th 6) s Q X) R7 (P17 _ _ hi) (by decide) ⟨by omega, by omega⟩ (fun q t R0 P0 a0 _ Q0 h0 => ?_) (fun s8 R8 P8 => ?_)
  · obtain ⟨b, hb, hv⟩ := R0.gP2 (P0 _ _ (P17 _ _ hi)) hs_r6.1
    exact n_X9_init R0 a0 hv hb ⟨by rw [dN_len]; omega, by rw [dN_sz]; omega⟩ h0
  rw [l5] at R8
  have R8 : Rep s8 hs6 c0 s0 := R8
  have P18 := P17.tr P8
  refine st_N (F := fX7 (dN hs6 7 7) hs6.length 160) (fun q s Q => wp_X7_init q (gP s th 6) s Q X) R8 (P18 _ _ hi) (by decide) ⟨by omega, by omega⟩ (fun q t R0 P0 a0 _ Q0 h0 => ?_) (fun s9 R9 P9 => ?_)
  · obtain ⟨b, hb, hv⟩ := R0.gP2 (P0 _ _ (P18 _ _ hi)) hs_r6.2
    exact n_X7_init R0 a0 hv hb ⟨by rw [dN_len]; omega, by rw [dN_sz]; omega⟩ h0
  rw [l6] at R9
  exact hQ s9 R9 (P18.tr P9)
end STA
/-! its labels -/
def hqT : List Nat := [0, 0, 0, 0, 0, 100, 0, 0, 0, 0, 0, 0, 0, 0, 0, 0, 0, 0, 0, 0, 0, 0, 1, 0, 0, 0, 2, 0, 0, 0, 3, 0, 0, 0, 4, 0, 0, 0, 5, 0, 0, 0, 6, 0, 0, 0, 7, 0, 0, 0, 8, 0, 0, 0, 9, 0, 0, 0, 10, 0, 0, 0, 11, 0, 0, 0, 12, 0, 0, 0, 13, 0, 0, 0, 14, 0, 0, 0, 15, 0, 0, 0, 1, 101, 1, 0, 0, 0, 0, 0, 0, 0, 0, 0, 0, 0, 16, 0, 0, 0, 17, 0, 0, 0, 18, 0, 0, 0, 19, 0, 0, 0, 20, 0, 0, 0, 21, 0, 0, 0, 22, 0, 0, 0, 23, 0, 0, 0, 24, 0, 0, 0, 25, 0, 0, 0, 26, 0, 0, 0, 27, 0, 0, 0, 28, 0, 0, 0, 29, 0, 0, 0, 30, 0, 0, 0, 31, 0, 0, 0, 0, 0, 0, 0, 2, 3, 1, 0, 0, 151, 60, 61, 62, 63, 152, 64, 65, 66, 67, 153, 68, 69, 70, 71, 1, 14, 0, 0, 4, 41, 42, 43, 146, 80, 81, 82, 83, 84, 85, 86, 87, 88, 89, 90, 91, 92, 93, 94, 95, 74, 4, 44, 0]
def hcT : List Nat := [0, 0, 0, 0, 0, 0, 0, 0, 0, 0, 0, 0, 0, 0, 0, 0, 0, 0, 0, 0, 0, 0, 0, 0, 0, 0, 0, 0, 0, 0, 0, 0, 0, 0, 0, 0, 0, 0, 0, 0, 0, 0, 0, 0, 0, 0, 0, 0, 0, 0, 0, 0, 0, 0, 0, 0, 0, 0, 0, 0, 0, 0, 0, 0, 0, 0, 0, 0, 0, 0, 0, 0, 0, 0, 0, 0, 0, 0, 0, 0, 0, 0, 0, 0, 0, 0, 0, 0, 0, 0, 0, 0, 0, 0, 0, 0, 0, 0, 0, 0, 0, 0, 0, 0, 0, 0, 0, 0, 0, 0, 0, 0, 0, 0, 0, 0, 0, 0, 0, 0, 0, 0, 0, 0, 0, 0, 0, 0, 0, 0, 0, 0, 0, 0, 0, 0, 0, 0, 0, 0, 0, 0, 0, 0, 0, 0, 0, 0, 0, 0, 0, 0, 0, 0, 0, 0, 0, 0, 0, 0, 0, 0, 0, 0, 0, 0, 0, 0, 0, 0, 0, 0, 0, 0, 0, 0, 0, 0, 0, 0, 0, 0, 0, 0, 0, 0, 0, 0, 0, 0, 0, 0, 0, 0, 0, 0, 0, 0, 0, 0, 0, 0, 0, 0, 0, 0, 0, 0, 0, 0, 0, 0, 0]
def hgT : List Nat := [0, 0, 0, 0, 0, 0, 1, 0, 0, 0, 0, 0, 9, 9, 9, 9, 2, 0, 0, 0, 0, 0, 0, 0, 0, 0, 0, 0, 0, 0, 0, 0, 0, 0, 0, 0, 0, 0, 0, 0, 0, 0, 0, 0, 0, 0, 0, 0, 0, 0, 0, 0, 0, 0, 0, 0, 0, 0, 0, 0, 0, 0, 0, 0, 0, 0, 0, 0, 0, 0, 0, 0, 0, 0, 0, 0, 0, 0, 0, 0, 0, 0, 0, 0, 1, 0, 0, 0, 0, 0, 9, 9, 9, 9, 2, 0, 0, 0, 0, 0, 0, 0, 0, 0, 0, 0, 0, 0, 0, 0, 0, 0, 0, 0, 0, 0, 0, 0, 0, 0, 0, 0, 0, 0, 0, 0, 0, 0, 0, 0, 0, 0, 0, 0, 0, 0, 0, 0, 0, 0, 0, 0, 0, 0, 0, 0, 0, 0, 0, 0, 0, 0, 0, 0, 0, 0, 0, 0, 0, 0, 0, 0, 0, 0, 0, 0, 0, 0, 3, 0, 0, 0, 0, 0, 0, 0, 0, 0, 0, 0, 0, 0, 0, 0, 0, 0, 0, 0, 0, 0, 0, 0, 0, 0, 0, 0, 0, 0, 0, 0, 0, 0, 0, 0, 0, 0, 0, 0, 0, 0, 0, 0, 0]
def hnu (i : Nat) : Nat := if i = 2 then 64 else 0
def hNN (g : Nat) : Nat := if g = 3 then 2199023255552 else 0
def plc (D : List Nat) (a : Nat) : Nat := D.idxOf a
def gqH (D : List Nat) (a : Nat) : Nat := hqT.getD (plc D a) 0
def ciH (D : List Nat) (a : Nat) : Nat := hcT.getD (plc D a) 0
def grH (D : List Nat) (a : Nat) : Nat := hgT.getD (plc D a) 0
theorem plc_at : ∀ {D : List Nat} {i a : Nat}, D.Nodup → D[i]? = some a → plc D a = i := by
  intro D i a hn h
  have hl := get_lt h
  have hm := get_mem h
  have h2 : D[plc D a]? = some a := by
    unfold plc
    rw [List.getElem?_eq_getElem (List.idxOf_lt_length_iff.mpr hm)]
    exact congrArg some (List.getElem_idxOf _)
  exact nd_inj hn h2 h
def hlab (i : Nat) (r : Rc) : Nat := if r.1 = 100 then 130 + hgT.getD i 0 else r.1
def hkd (j : Nat) : Nat := (hsD.getD j (rN 0 0)).1
def hln (j : Nat) : Nat := (hsD.getD j (rN 0 0)).2.1
def objT (l k : Nat) : Bool := decide (l ∈ [1, 2, 6, 10, 111, 112, 115, 120]) || (decide (l = 7) && decide (k ≠ 3)) || (decide (l = 9) && decide (k ∉ [3, 4, 5, 6, 7, 8])) || (decide (l = 11) && decide (k ≠ 3)) || (decide (l = 12) && decide (k ≠ 0))
theorem lbT_o {nu : Nat → Nat} {l qa ca k qb cb nb rb : Nat} (h : objT l k = true) (w : lbT nu l qa ca k qb cb 0 rb) : lbT nu l qa ca k qb cb nb rb := by
  unfold objT at h
  simp only [Bool.or_eq_true, Bool.and_eq_true, decide_eq_true_eq, List.mem_cons, List.not_mem_nil, or_false, not_or] at h
  rcases h with (((h | ⟨h, h2⟩) | ⟨h, h2⟩) | ⟨h, h2⟩) | ⟨h, h2⟩
  · rcases h with rfl | rfl | rfl | rfl | rfl | rfl | rfl | rfl <;> simp [lbT] at w ⊢ <;> exact w
  · subst h; simp [lbT, h2] at w ⊢; exact w
  · subst h; simp [lbT, h2] at w ⊢; exact w
  · subst h; simp [lbT, h2] at w ⊢; exact w
  · subst h; simp [lbT, h2] at w ⊢
def decIt {c t e : Prop} (dc : Decidable c) (dt : Decidable t) (de : Decidable e) : Decidable (@ite Prop c dc t e) := match dc with
  | .isTrue _ => dt
  | .isFalse _ => de
def lbTd (nu : Nat → Nat) (l qa ca k qb cb nb rb : Nat) : Decidable (lbT nu l qa ca k qb cb nb rb) := by
  unfold lbT
  repeat' (first | refine decIt _ ?_ ?_ | infer_instance)
def lbTb (nu : Nat → Nat) (l qa ca k qb cb nb rb : Nat) : Bool := @decide (lbT nu l qa ca k qb cb nb rb) (lbTd nu l qa ca k qb cb nb rb)
/-- what is checked of the thing at i -/
def hch (i : Nat) (r : Rc) : Bool :=
  (decide (hgT.getD i 0 = 0) || decide (r.1 = if hgT.getD i 0 = 9 then 101 else 100)) &&
  (decide (r.2.2.1 = 0) && r.2.2.2.1.all (fun p => decide (p.1 < 64)) && (List.range 65).all (fun k => decide (lbLo (hlab i r) k ≤ rI r k) && decide (rI r k ≤ lbHi hnu (hlab i r) k))) &&
  ((List.range 64).all (fun k => !(lbN r.1 k r.2.1) || (rP r k).isSome) && decide (r.1 = 111 → r.2.1 ≤ 64)) &&
  r.2.2.2.2.all (fun p => (lbTb hnu r.1 (hqT.getD i 0) (hcT.getD i 0) p.1 (hqT.getD p.2 0) (hcT.getD p.2 0) (if hkd p.2 < 100 then 0 else hln p.2) (hgT.getD p.2 0)) && (!(lbX r.1 p.1) || decide (hkd p.2 = lbG r.1 p.1)) && (decide (100 ≤ hkd p.2) || objT r.1 p.1)) &&
  (decide (tlab r.1 (hqT.getD i 0) = 0) && !(clab r.1 (hqT.getD i 0)) && decide (r.1 ≠ 0 ∧ r.1 ≠ 2)) &&
  (decide (r.1 = 1 → r.2.2.2.2 = [] ∧ rI r 2 = 0) && decide (r.1 = 8 → rP r 0 = none)) &&
  (decide (r.1 = 4 → rI r 1 = 0 ∧ rI r 2 = 0 ∧ rI r 7 = 0) && decide (r.1 = 4 → ((rP r 5).map hln = some 64 ∧ (rP r 6).map hln = some 64 ∧ (rP r 5).map hkd = some 100 ∧ (rP r 6).map hkd = some 101))) &&
  (decide (r.1 = 11 → (hqT.getD i 0 = 1 ∨ hqT.getD i 0 = 4)) && decide (r.1 = 11 → 0 ≤ rI r 4) && decide (r.1 = 9 → rI r 10 = 0 ∧ rI r 11 = 0 ∧ 0 ≤ rI r 14) && decide (r.1 = 3 → rP r 0 = some 164 ∧ rP r 1 = some 165 ∧ 0 ≤ rI r 7) && decide (r.1 = 7 → 0 ≤ rI r 6))
set_option maxRecDepth 100000 in
theorem hch_ok : (List.range 213).all (fun i => (hsD[i]?).all (fun r => hch i r)) = true := by decide +kernel
/-- two of a kind -/
def hun (i j : Nat) (r s : Rc) : Bool := decide (r.1 ≠ s.1) || decide (i = j) || (!(un1 r.1) && (!(un2 r.1) || decide (hqT.getD i 0 ≠ hqT.getD j 0) || (decide (hcT.getD i 0 ≠ hcT.getD j 0) && !(un3 r.1 (hqT.getD i 0)))))
set_option maxRecDepth 100000 in
theorem hun_ok : (List.range 213).all (fun i => (List.range 213).all (fun j => (hsD[i]?).all (fun r => (hsD[j]?).all (fun s => hun i j r s)))) = true := by decide +kernel
set_option maxRecDepth 100000 in
theorem hs_at : hqT.getD 164 0 = 2 ∧ hqT.getD 165 0 = 3 ∧ hqT.getD 160 0 = 0 ∧ hqT.getD 4 0 = 0 ∧ hqT.getD 82 0 = 1 ∧ hqT.getD 184 0 = 1 ∧ hqT.getD 210 0 = 4 := by decide +kernel
set_option maxRecDepth 100000 in
theorem hs_rc : ((hsD[0]?).bind (fun r => rP r 4) = some 4 ∧ (hsD[0]?).bind (fun r => rP r 5) = some 82 ∧ (hsD[0]?).bind (fun r => rP r 7) = some 162 ∧ (hsD[162]?).bind (fun r => rP r 2) = some 163 ∧ (hsD[162]?).bind (fun r => rP r 1) = some 184) ∧ ((hsD[0]?).map (fun r => r.1) = some 12 ∧ (hsD[4]?).map (fun r => r.1) = some 4 ∧ (hsD[82]?).map (fun r => r.1) = some 4 ∧ (hsD[162]?).map (fun r => r.1) = some 9 ∧ (hsD[163]?).map (fun r => r.1) = some 3 ∧ (hsD[184]?).map (fun r => r.1) = some 11 ∧ (hsD[210]?).map (fun r => r.1) = some 11 ∧ (hsD[187]?).map (fun r => r.1) = some 7 ∧ (hsD[160]?).map (fun r => r.1) = some 8) ∧ ((hsD[0]?).map (fun r => rI r 1) = some 0 ∧ (hsD[163]?).map (fun r => (rI r 2, rI r 9, rI r 3)) = some (0, 0, 0) ∧ (hsD[160]?).map (fun r => rP r 0) = some none) := by decide +kernel
section STB
variable {σ : Sg} {c0 s0 th : Nat}
theorem lookup_mem {α : Type} {l : List (Nat × α)} {k : Nat} {v : α} (h : l.lookup k = some v) : (k, v) ∈ l := by
  induction l with
  | nil => cases h
  | cons p l ih =>
    obtain ⟨x, y⟩ := p
    by_cases e : k = x
    · subst e; rw [List.lookup_cons, beq_self_eq_true] at h; cases h; exact List.mem_cons_self
    · rw [List.lookup_cons, beq_false_of_ne e] at h; exact List.mem_cons_of_mem _ (ih h)
theorem lookup_none {α : Type} {l : List (Nat × α)} {k m : Nat} (h : ∀ p ∈ l, p.1 < m) (hk : m ≤ k) : l.lookup k = none := by
  induction l with
  | nil => rfl
  | cons p l ih =>
    obtain ⟨x, y⟩ := p
    have hx : x < m := h (x, y) List.mem_cons_self
    rw [List.lookup_cons, beq_false_of_ne (by omega)]
    exact ih (fun p hp => h p (List.mem_cons_of_mem _ hp))
theorem lbLo_big (l k : Nat) (h : 64 ≤ k) : lbLo l k = lbLo l 64 := by
  have e : ∀ m, m < 64 → ¬ k = m := fun m hm w => by omega
  unfold lbLo
  simp only [e _ (show 0 < 64 by decide), e _ (show 1 < 64 by decide), e _ (show 2 < 64 by decide), e _ (show 3 < 64 by decide), e _ (show 4 < 64 by decide), e _ (show 5 < 64 by decide), e _ (show 6 < 64 by decide), e _ (show 7 < 64 by decide), e _ (show 8 < 64 by decide), e _ (show 9 < 64 by decide), e _ (show 10 < 64 by decide), e _ (show 11 < 64 by decide), e _ (show 12 < 64 by decide), e _ (show 13 < 64 by decide), e _ (show 14 < 64 by decide), e _ (show 15 < 64 by decide), e _ (show 16 < 64 by decide), if_false, Nat.reduceEqDiff]
theorem lbHi_big (nu : Nat → Nat) (l k : Nat) (h : 64 ≤ k) : lbHi nu l k = lbHi nu l 64 := by
  have e : ∀ m, m < 64 → ¬ k = m := fun m hm w => by omega
  unfold lbHi
  simp only [e _ (show 0 < 64 by decide), e _ (show 1 < 64 by decide), e _ (show 2 < 64 by decide), e _ (show 3 < 64 by decide), e _ (show 4 < 64 by decide), e _ (show 5 < 64 by decide), e _ (show 6 < 64 by decide), e _ (show 7 < 64 by decide), e _ (show 8 < 64 by decide), e _ (show 9 < 64 by decide), e _ (show 10 < 64 by decide), e _ (show 11 < 64 by decide), e _ (show 12 < 64 by decide), e _ (show 13 < 64 by decide), e _ (show 14 < 64 by decide), e _ (show 15 < 64 by decide), e _ (show 16 < 64 by decide), if_false, Nat.reduceEqDiff]
theorem lbN_n {l k n m : Nat} (h : ¬ l = 111) : lbN l k n = lbN l k m := by
  unfold lbN; rw [if_neg h, if_neg h]
theorem lbN_big {l k n : Nat} (h : 64 ≤ k) (hn : l = 111 → n ≤ 64) (w : lbN l k n = true) : False := by
  have e : ∀ m, m < 64 → ¬ k = m := fun m hm w => by omega
  by_cases h1 : l = 111
  · have hn := hn h1
    subst h1
    have w : decide (k < n) = true := w
    have w := of_decide_eq_true w
    omega
  · by_cases h2 : l = 115
    · subst h2
      have w : decide (k < 16) = true := w
      have w := of_decide_eq_true w
      omega
    · by_cases h3 : l = 200
      · subst h3
        have w : decide (k < 4) = true := w
        have w := of_decide_eq_true w
        omega
      · unfold lbN at w
        rw [if_neg h1, if_neg h2, if_neg h3] at w
        simp only [List.mem_cons, List.not_mem_nil, or_false, e _ (show 0 < 64 by decide), e _ (show 1 < 64 by decide), e _ (show 2 < 64 by decide), e _ (show 3 < 64 by decide), e _ (show 4 < 64 by decide), e _ (show 5 < 64 by decide), e _ (show 6 < 64 by decide), e _ (show 7 < 64 by decide), e _ (show 8 < 64 by decide), e _ (show 9 < 64 by decide), e _ (show 10 < 64 by decide), e _ (show 11 < 64 by decide), e _ (show 12 < 64 by decide), e _ (show 13 < 64 by decide), e _ (show 14 < 64 by decide), e _ (show 15 < 64 by decide), e _ (show 16 < 64 by decide), decide_false, ite_self, Bool.false_eq_true] at w
/-- of each thing: its place, its record, what was checked -/
theorem hs_of (R : Rep σ hsD c0 s0) {a : Nat} (ha : a ∈ gD σ) : ∃ i r, hsD[i]? = some r ∧ (gD σ)[i]? = some a ∧ RcO σ r a ∧ hch i r = true ∧ gqH (gD σ) a = hqT.getD i 0 ∧ ciH (gD σ) a = hcT.getD i 0 ∧ grH (gD σ) a = hgT.getD i 0 ∧ i < 213 ∧ (∀ k j, rP r k = some j → j < 213) := by
  obtain ⟨i, hi⟩ := List.getElem?_of_mem ha
  have li : i < hsD.length := by rw [← R.1]; exact get_lt hi
  obtain ⟨r, hr⟩ : ∃ r, hsD[i]? = some r := ⟨_, List.getElem?_eq_getElem li⟩
  have e : plc (gD σ) a = i := plc_at R.2.1 hi
  have l213 := hs_len.2.2.2.2.2.2
  rw [l213] at li
  have h1 := List.all_eq_true.mp hch_ok i (List.mem_range.mpr li)
  rw [hr] at h1
  refine ⟨i, r, hr, hi, R.at hi hr, h1, ?_, ?_, ?_, li, fun k j w => by rw [← l213]; exact (R.2.2.2 i r hr).1 k j w⟩
  · unfold gqH; rw [e]
  · unfold ciH; rw [e]
  · unfold grH; rw [e]
theorem hs_k (R : Rep σ hsD c0 s0) {j b : Nat} (hj : (gD σ)[j]? = some b) : gk σ b = hkd j ∧ (100 ≤ hkd j → gn σ b = hln j) ∧ gqH (gD σ) b = hqT.getD j 0 ∧ ciH (gD σ) b = hcT.getD j 0 ∧ grH (gD σ) b = hgT.getD j 0 := by
  have lj : j < hsD.length := by rw [← R.1]; exact get_lt hj
  obtain ⟨r, hr⟩ : ∃ r, hsD[j]? = some r := ⟨_, List.getElem?_eq_getElem lj⟩
  have e : plc (gD σ) b = j := plc_at R.2.1 hj
  have o := R.at hj hr
  have e1 : hsD.getD j (rN 0 0) = r := by rw [List.getD_eq_getElem?_getD, hr]; rfl
  refine ⟨by unfold hkd; rw [e1]; exact o.1, fun w => by unfold hln; unfold hkd at w; rw [e1] at w ⊢; exact o.2.1 w, ?_, ?_, ?_⟩
  · unfold gqH; rw [e]
  · unfold ciH; rw [e]
  · unfold grH; rw [e]
theorem hs_kd (R : Rep σ hsD c0 s0) {j kk : Nat} (h : (hsD[j]?).map (fun r => r.1) = some kk) : ∃ b, (gD σ)[j]? = some b ∧ kO σ b kk := by
  cases e : hsD[j]? with
  | none => rw [e] at h; cases h
  | some r =>
    rw [e] at h
    obtain ⟨_, b, hb, o⟩ := R.2.2.2 j r e
    exact ⟨b, hb, get_mem hb, o.1.trans (Option.some.inj h)⟩
theorem SA_new (R : Rep σ hsD c0 s0) : SA σ (gqH (gD σ)) (ciH (gD σ)) (grH (gD σ)) hnu := by
  refine ⟨fun a h => ?_, fun a ha k => ?_, fun a ha k h => ?_, fun a ha k b h => ?_, fun a ha b hb h1 h2 => ?_, fun a ha b hb h1 h2 h3 h4 => ?_⟩
  · have ha : a ∈ gD σ := by
      apply Classical.byContradiction; intro w
      apply h
      have e : plc (gD σ) a = (gD σ).length := List.idxOf_eq_length w
      unfold grH; rw [e, R.1, hs_len.2.2.2.2.2.2]; rfl
    obtain ⟨i, r, hr, hi, o, c, e1, e2, e3, li, lj⟩ := hs_of R ha
    unfold hch at c
    simp only [Bool.and_eq_true, Bool.or_eq_true, decide_eq_true_eq] at c
    obtain ⟨⟨⟨⟨⟨⟨⟨c1, c2⟩, c3⟩, c4⟩, c5⟩, c6⟩, c7⟩, c8⟩ := c
    rw [e3] at h ⊢
    refine ⟨ha, ?_⟩
    rw [o.1]
    rcases c1 with c1 | c1
    · exact absurd c1 h
    · exact c1
  · obtain ⟨i, r, hr, hi, o, c, e1, e2, e3, li, lj⟩ := hs_of R ha
    unfold hch at c
    simp only [Bool.and_eq_true, Bool.or_eq_true, decide_eq_true_eq] at c
    obtain ⟨⟨⟨⟨⟨⟨⟨c1, c2⟩, c3⟩, c4⟩, c5⟩, c6⟩, c7⟩, c8⟩ := c
    have el : labN σ (grH (gD σ)) a = hlab i r := by unfold labN hlab; rw [o.1, e3]
    rw [el, o.2.2.1 k]
    have fin : ∀ k, k < 65 → lbLo (hlab i r) k ≤ rI r k ∧ rI r k ≤ lbHi hnu (hlab i r) k := fun k hk => by
      have := List.all_eq_true.mp c2.2 k (List.mem_range.mpr hk)
      simpa only [Bool.and_eq_true, decide_eq_true_eq] using this
    by_cases hk : k < 65
    · exact fin k hk
    · have q : ∀ m, 64 ≤ m → rI r m = 0 := fun m hm => by
        unfold rI
        rw [lookup_none (m := 64) (fun p hp => by have := List.all_eq_true.mp c2.1.2 p hp; simpa only [decide_eq_true_eq] using this) hm]
        exact c2.1.1
      rw [lbLo_big _ k (by omega), lbHi_big _ _ k (by omega), q k (by omega), ← q 64 (by omega)]
      exact fin 64 (by decide)
  · obtain ⟨i, r, hr, hi, o, c, e1, e2, e3, li, lj⟩ := hs_of R ha
    unfold hch at c
    simp only [Bool.and_eq_true, Bool.or_eq_true, decide_eq_true_eq] at c
    obtain ⟨⟨⟨⟨⟨⟨⟨c1, c2⟩, c3⟩, c4⟩, c5⟩, c6⟩, c7⟩, c8⟩ := c
    have h9 : lbN r.1 k r.2.1 = true := by
      rw [o.1] at h
      by_cases w : r.1 = 111
      · rw [o.2.1 (by omega)] at h; exact h
      · rw [lbN_n w (m := gn σ a)]; exact h
    by_cases hk : k < 64
    · have := List.all_eq_true.mp c3.1 k (List.mem_range.mpr hk)
      rw [h9] at this
      have h8 : (rP r k).isSome = true := by simpa using this
      obtain ⟨j, hj⟩ := Option.isSome_iff_exists.mp h8
      obtain ⟨b, hb⟩ : ∃ b, (gD σ)[j]? = some b := ⟨_, List.getElem?_eq_getElem (by rw [R.1, hs_len.2.2.2.2.2.2]; exact lj k j hj)⟩
      rw [R.gP1 hi hr hj hb]; exact fun w => nomatch w
    · exact (lbN_big (by omega) c3.2 h9).elim
  · obtain ⟨i, r, hr, hi, o, c, e1, e2, e3, li, lj⟩ := hs_of R ha
    unfold hch at c
    simp only [Bool.and_eq_true, Bool.or_eq_true, decide_eq_true_eq] at c
    obtain ⟨⟨⟨⟨⟨⟨⟨c1, c2⟩, c3⟩, c4⟩, c5⟩, c6⟩, c7⟩, c8⟩ := c
    have hp := o.2.2.2.2 k
    rw [h] at hp
    cases er : rP r k with
    | none => rw [er] at hp; cases hp
    | some j =>
      rw [er] at hp
      have hb : (gD σ)[j]? = some b := hp.symm
      have t := List.all_eq_true.mp c4 (k, j) (lookup_mem er)
      simp only [Bool.and_eq_true, Bool.or_eq_true, decide_eq_true_eq] at t
      obtain ⟨⟨t1, t2⟩, t3⟩ := t
      obtain ⟨b1, b2, b3, b4, b5⟩ := hs_k R hb
      have t0 : lbT hnu r.1 (hqT.getD i 0) (hcT.getD i 0) k (hqT.getD j 0) (hcT.getD j 0) (if hkd j < 100 then 0 else hln j) (hgT.getD j 0) := @of_decide_eq_true _ (lbTd _ _ _ _ _ _ _ _ _) t1
      rw [o.1, e1, e2, b3, b4, b5]
      refine ⟨?_, fun w => ⟨get_mem hb, ?_⟩⟩
      · by_cases w : hkd j < 100
        · rw [if_pos w] at t0
          rcases t3 with t3 | t3
          · omega
          · exact lbT_o t3 t0
        · rw [if_neg w] at t0
          rw [b2 (by omega)]; exact t0
      · rcases t2 with t2 | t2
        · rw [w] at t2; cases t2
        · rw [b1]; exact t2
  · obtain ⟨i, r, hr, hi, o, c, _, _, _, li, _⟩ := hs_of R ha
    obtain ⟨j, s, hs, hj, o', c', _, _, _, lj, _⟩ := hs_of R hb
    have t := List.all_eq_true.mp (List.all_eq_true.mp hun_ok i (List.mem_range.mpr li)) j (List.mem_range.mpr lj)
    rw [hr, hs] at t
    have t : hun i j r s = true := t
    unfold hun at t
    rw [o.1, o'.1] at h1
    rw [o.1] at h2
    simp only [Bool.or_eq_true, decide_eq_true_eq, Bool.and_eq_true, Bool.not_eq_true', h2] at t
    rcases t with (t | t) | t
    · exact absurd h1 t
    · subst t; exact Option.some.inj (hi.symm.trans hj)
    · cases t.1
  · obtain ⟨i, r, hr, hi, o, c, e1, e2, _, li, _⟩ := hs_of R ha
    obtain ⟨j, s, hs, hj, o', c', f1, f2, _, lj, _⟩ := hs_of R hb
    have t := List.all_eq_true.mp (List.all_eq_true.mp hun_ok i (List.mem_range.mpr li)) j (List.mem_range.mpr lj)
    rw [hr, hs] at t
    have t : hun i j r s = true := t
    unfold hun at t
    rw [o.1, o'.1] at h1
    rw [o.1] at h2 h4
    rw [e1, f1] at h3
    rw [e1, e2, f2] at h4
    simp only [Bool.or_eq_true, decide_eq_true_eq, Bool.and_eq_true, Bool.not_eq_true', h2] at t
    rcases t with (t | t) | t
    · exact absurd h1 t
    · subst t; exact Option.some.inj (hi.symm.trans hj)
    · rcases t.2 with (t | t) | t
      · cases t
      · exact absurd h3 t
      · rcases h4 with h4 | h4
        · exact absurd h4 t.1
        · rw [h4] at t; cases t.2
theorem SA_kd {gq ci gr nu : Nat → Nat} (h : SA σ gq ci gr nu) {a b k : Nat} (ha : kO σ a k) (hb : kO σ b k) (hu : un1 k = true) : a = b := h.2.2.2.2.1 a ha.1 b hb.1 (ha.2.trans hb.2.symm) (by rw [ha.2]; exact hu)
theorem i64_0 : (0 : Int64).toInt = 0 := by decide
theorem HV_new (R : Rep σ hsD c0 s0) (hG : RG σ) (hc : c0 ≤ 1000 ∧ s0 ≤ 900000) (hth : (gD σ)[0]? = some th) : HV σ th 0 0 := by
  have sa := SA_new R
  obtain ⟨⟨p4, p5, p7, p2, p1⟩, ⟨k0, kJ, kS, kR, kD, kW, kW4, kP, kL⟩, ⟨i1, iD, iL⟩⟩ := hs_rc
  obtain ⟨q164, q165, qpl, qJ, qS, qW, qW4⟩ := hs_at
  obtain ⟨th', hth', kth⟩ := hs_kd R k0
  have eth : th' = th := Option.some.inj (hth'.symm.trans hth)
  subst eth
  obtain ⟨J, hJ, kJ⟩ := hs_kd R kJ
  obtain ⟨S, hS, kS⟩ := hs_kd R kS
  obtain ⟨Rn, hRn, kR⟩ := hs_kd R kR
  obtain ⟨D, hD, kD⟩ := hs_kd R kD
  obtain ⟨W, hW, kW⟩ := hs_kd R kW
  obtain ⟨W4, hW4, kW4⟩ := hs_kd R kW4
  obtain ⟨Ps, hPs, kP⟩ := hs_kd R kP
  obtain ⟨pl, hpl, kL⟩ := hs_kd R kL
  have fld : ∀ {i j k x y : Nat}, (gD σ)[i]? = some x → (hsD[i]?).bind (fun r => rP r k) = some j → (gD σ)[j]? = some y → gP σ x k = some y := fun hx hp hy => by
    obtain ⟨b, hb, e⟩ := R.gP2 hx hp
    rw [e, ← hb, hy]
  have gJq := (hs_k R hJ).2.2.1
  have gSq := (hs_k R hS).2.2.1
  rw [qJ] at gJq
  rw [qS] at gSq
  have int1 : ∀ {i x k : Nat} {v : Int}, (gD σ)[i]? = some x → (hsD[i]?).map (fun r => rI r k) = some v → gI σ x k = v := fun {i x k v} hx h => by
    cases e : hsD[i]? with
    | none => rw [e] at h; cases h
    | some r => rw [e] at h; rw [(R.at hx e).2.2.1 k]; exact Option.some.inj h
  have iD9 : gI σ D 2 = 0 ∧ gI σ D 9 = 0 ∧ gI σ D 3 = 0 := by
    cases e : hsD[163]? with
    | none => rw [e] at iD; cases iD
    | some r =>
      rw [e] at iD
      have w := Option.some.inj iD
      simp only [Prod.mk.injEq] at w
      have o := (R.at hD e).2.2.1
      rw [o, o, o]; exact w
  have nk : ∀ a, ¬ kO σ a 0 ∧ ¬ kO σ a 2 := fun a => by
    constructor
    · intro h
      obtain ⟨i, r, hr, hi, o, c, _⟩ := hs_of R h.1
      unfold hch at c
      simp only [Bool.and_eq_true, Bool.or_eq_true, decide_eq_true_eq] at c
      exact c.1.1.1.2.2.1 (o.1.symm.trans h.2)
    · intro h
      obtain ⟨i, r, hr, hi, o, c, _⟩ := hs_of R h.1
      unfold hch at c
      simp only [Bool.and_eq_true, Bool.or_eq_true, decide_eq_true_eq] at c
      exact c.1.1.1.2.2.2 (o.1.symm.trans h.2)
  have z3 : hNN 3 = 2199023255552 := rfl
  have zN : ∀ g, g ≠ 3 → hNN g = 0 := fun g h => if_neg h
  have zu : ∀ g, g ≠ 2 → hnu g = 0 := fun g h => if_neg h
  have g9 := R.2.2.1
  have l9 := hs_len.2.2.2.2.2.2
  have s9 := hs_sz.2.2.2.2.2.2
  refine ⟨pl, gqH (gD σ), ciH (gD σ), grH (gD σ), fun _ => 0, fun _ _ => 0, fun _ => [], hNN, hnu, J, S, Rn, D, W, ⟨sa, ?_, ?_, ?_, ?_, ?_, ⟨hG, ?_⟩, ?_⟩, ?_, ?_, ?_, ?_⟩
  · -- SB
    refine ⟨⟨by rw [zu 0 (by decide)]; omega, by rw [zu 1 (by decide)]; omega⟩, fun t _ _ j hj => by rw [zu 0 (by decide)] at hj; omega, fun t _ j hj => by rw [zu 1 (by decide)] at hj; omega, fun c h => absurd h (nk c).2, fun r kr t ht _ hlt => ?_, ⟨by rw [zu 10 (by decide)]; omega, fun t _ => Or.inl (by rw [zu 10 (by decide)]; omega), fun x hx hl => ?_, fun x hx hl => ?_⟩, ⟨Rn, kR, ?_, ?_⟩, ⟨W, kW, ?_⟩, ⟨W4, kW4, ?_⟩, ⟨D, kD⟩, ⟨Ps, kP⟩⟩
    · obtain ⟨i, q, hr, hi, o, c, _⟩ := hs_of R kr.1
      unfold hch at c
      simp only [Bool.and_eq_true, Bool.or_eq_true, decide_eq_true_eq] at c
      have w := (c.2.1.1.2 (o.1.symm.trans kr.2)).1
      rw [o.2.2.1 10, w] at hlt; omega
    · obtain ⟨i, r, hr, hi, o, c, e1, _⟩ := hs_of R hx
      unfold hch at c
      simp only [Bool.and_eq_true, Bool.or_eq_true, decide_eq_true_eq] at c
      rw [o.1, e1] at hl; exact absurd c.1.1.1.2.1.1 hl
    · obtain ⟨i, r, hr, hi, o, c, e1, _⟩ := hs_of R hx
      unfold hch at c
      simp only [Bool.and_eq_true, Bool.or_eq_true, decide_eq_true_eq, Bool.not_eq_true'] at c
      rw [o.1, e1, c.1.1.1.2.1.2] at hl; cases hl
    · obtain ⟨i, r, hr, hi, o, c, _⟩ := hs_of R kR.1
      unfold hch at c
      simp only [Bool.and_eq_true, Bool.or_eq_true, decide_eq_true_eq] at c
      rw [o.2.2.1 10, (c.2.1.1.2 (o.1.symm.trans kR.2)).1]; rfl
    · obtain ⟨i, r, hr, hi, o, c, _⟩ := hs_of R kR.1
      unfold hch at c
      simp only [Bool.and_eq_true, Bool.or_eq_true, decide_eq_true_eq] at c
      rw [o.2.2.1 11, (c.2.1.1.2 (o.1.symm.trans kR.2)).2.1]; rfl
    · rw [(hs_k R hW).2.2.1]; exact qW
    · rw [(hs_k R hW4).2.2.1]; exact qW4
  · -- SC
    refine ⟨fun w kw => ?_, fun r kr => ?_, fun d kd p s hp hs => ?_, ?_, fun p kp => ?_⟩
    · obtain ⟨i, r, hr, hi, o, c, e1, _⟩ := hs_of R kw.1
      unfold hch at c
      simp only [Bool.and_eq_true, Bool.or_eq_true, decide_eq_true_eq] at c
      have w1 := c.2.1.1.1.1 (o.1.symm.trans kw.2)
      have w2 := c.2.1.1.1.2 (o.1.symm.trans kw.2)
      rw [o.2.2.1 4, e1]
      refine ⟨w1, ?_⟩
      rcases w1 with w | w <;> rw [w] <;> rw [zN _ (by decide), zN _ (by decide)] <;> simpa using w2
    · obtain ⟨i, q, hr, hi, o, c, _⟩ := hs_of R kr.1
      unfold hch at c
      simp only [Bool.and_eq_true, Bool.or_eq_true, decide_eq_true_eq] at c
      rw [o.2.2.1 14, zN _ (by decide)]
      exact (c.2.1.1.2 (o.1.symm.trans kr.2)).2.2
    · have ed : d = D := SA_kd sa kd kD rfl
      subst ed
      obtain ⟨i, r, hr, hi, o, c, e1, _⟩ := hs_of R kd.1
      unfold hch at c
      simp only [Bool.and_eq_true, Bool.or_eq_true, decide_eq_true_eq] at c
      obtain ⟨a1, a2, a3⟩ := c.2.1.2 (o.1.symm.trans kd.2)
      rw [o.2.2.2.2 0, a1] at hp
      rw [o.2.2.2.2 1, a2] at hs
      have hp : (gD σ)[164]? = some p := hp
      have hs : (gD σ)[165]? = some s := hs
      have x1 := (hs_k R hp).2.2.1
      have x2 := (hs_k R hs).2.2.1
      rw [q164] at x1
      rw [q165] at x2
      rw [x1, x2, zN _ (by decide), zN _ (by decide), zN _ (by decide), zN _ (by decide), zN _ (by decide), iD9.2.2, o.2.2.1 7]
      refine ⟨Or.inl ⟨rfl, rfl⟩, ?_, by decide, by decide⟩
      rw [if_pos rfl]; simpa using a3
    · decide
    · obtain ⟨i, r, hr, hi, o, c, e1, _⟩ := hs_of R kp.1
      unfold hch at c
      simp only [Bool.and_eq_true, Bool.or_eq_true, decide_eq_true_eq] at c
      have w := c.2.2 (o.1.symm.trans kp.2)
      rw [o.2.2.1 6]
      exact w
  · -- SS
    have e0 : ∀ D : List Nat, ∀ gq : Nat → Nat, ∀ g, ns D gq (fun _ => []) g = 0 := fun D gq g => by
      unfold ns
      induction D with
      | nil => rfl
      | cons x D ih => rw [List.map_cons, List.sum_cons, ih]; by_cases w : gq x = g <;> simp
    have e1 : ∀ D : List Nat, nt D (fun _ => []) = 0 := fun D => by
      unfold nt
      induction D with
      | nil => rfl
      | cons x D ih => rw [List.map_cons, List.sum_cons, ih]; rfl
    refine ⟨R.2.1, by rw [(hs_k R hpl).2.2.1]; exact qpl, fun g hg => by rw [e0]; exact zN g (by omega), fun x _ _ => by simp, ?_, fun x _ h => absurd rfl h, fun x _ _ c hc => by simp at hc, by rw [e1]; rfl⟩
    rw [List.countP_eq_zero.mpr (fun a ha => ?_)]
    · exact Nat.zero_le _
    · obtain ⟨i, r, hr, hi, o, c, e1, _⟩ := hs_of R ha
      unfold hch at c
      simp only [Bool.and_eq_true, Bool.or_eq_true, decide_eq_true_eq, Bool.not_eq_true'] at c
      have w := c.1.1.1.2.1.2
      rw [decide_eq_true_eq, o.1, e1]
      intro hw
      unfold clab at w
      rw [hw.1, hw.2] at w
      simp at w
  · -- SO
    refine ⟨⟨by decide, by decide, by decide⟩, fun i hi => absurd hi (Nat.not_lt_zero _), fun i hi => absurd hi (Nat.not_lt_zero _), fun o _ i hi => absurd hi (Nat.not_lt_zero _), fun J' kJ' _ => ?_⟩
    obtain ⟨i, r, hr, hi, o, c, e1, _⟩ := hs_of R kJ'.1
    unfold hch at c
    simp only [Bool.and_eq_true, Bool.or_eq_true, decide_eq_true_eq] at c
    have w := c.1.2.1 (o.1.symm.trans kJ'.2)
    exact ⟨by rw [o.2.2.1 1, w.1]; rfl, by rw [o.2.2.1 2, w.2.1]; rfl, fun a _ i hi => absurd hi (Nat.not_lt_zero _)⟩
  · -- SU
    refine ⟨?_, ?_, ⟨by decide, by decide, by decide, by decide, by decide, by decide, by decide⟩, fun p _ w _ => by rw [zu 12 (by decide)]; omega, fun J' kJ' c hc => ?_, fun t _ => ⟨fun _ => by rw [zu 8 (by decide)]; omega, fun _ => by rw [zu 9 (by decide)]; omega⟩⟩
    · unfold KC; rw [g9.1, l9]; omega
    · unfold KS; rw [g9.2]; omega
    · obtain ⟨i, r, hr, hi, o, ck, e1, _⟩ := hs_of R kJ'.1
      unfold hch at ck
      simp only [Bool.and_eq_true, Bool.or_eq_true, decide_eq_true_eq] at ck
      have w := ck.1.2.1 (o.1.symm.trans kJ'.2)
      obtain ⟨w1, w2, w3, w4⟩ := ck.1.2.2 (o.1.symm.trans kJ'.2)
      have arr : ∀ k kd y, (rP r k).map hln = some 64 → (rP r k).map hkd = some kd → 100 ≤ kd → gP σ J' k = some y → gn σ y = 64 := fun k kd y a1 a2 a3 hy => by
        rw [o.2.2.2.2 k] at hy
        cases er : rP r k with
        | none => rw [er] at a1; cases a1
        | some j =>
          rw [er] at a1 a2 hy
          have hj : (gD σ)[j]? = some y := hy
          have b := hs_k R hj
          have a1 : hln j = 64 := Option.some.inj a1
          have a2 : hkd j = kd := Option.some.inj a2
          rw [b.2.1 (by omega)]; exact a1
      have n5 := arr 5 100 c w1 w3 (by decide) hc
      refine ⟨fun _ => by rw [zu 13 (by decide)]; omega, fun _ => by rw [zu 14 (by decide)]; omega, fun m hm => by rw [arr 6 101 m w2 w4 (by decide) hm, n5], ?_⟩
      rw [o.2.2.1 7, w.2.2, n5]; decide
  · -- SJ
    have zJ : ∀ a ∈ gD σ, ∀ k, gJ σ a k = 0 := fun a ha k => by
      obtain ⟨i, r, hr, hi, o, _⟩ := hs_of R ha
      exact o.2.2.2.1 k
    refine ⟨fun c h => absurd h (nk c).1, fun c h => absurd h (nk c).2, fun t ht => ?_, fun g hg _ p _ => ?_, by rw [z3]; decide⟩
    · rw [zJ t ht.1, z3]; unfold tb; rw [i64_0]; omega
    · rw [zJ g hg.1, i64_0]; omega
  · -- HP
    refine ⟨fun _ => 0, fun ch kch => ?_, ⟨kL, ?_⟩, fun x c hc => by simp at hc, fun x => List.nodup_nil, fun x h => absurd rfl h, fun c h => absurd h (nk c).1⟩
    · obtain ⟨i, r, hr, hi, o, c, e1, _⟩ := hs_of R kch.1
      unfold hch at c
      simp only [Bool.and_eq_true, Bool.or_eq_true, decide_eq_true_eq] at c
      obtain ⟨w1, w2⟩ := c.1.1.2.1 (o.1.symm.trans kch.2)
      have hn : ∀ k, gP σ ch k = none := fun k => by rw [o.2.2.2.2 k]; unfold rP; rw [w1]; rfl
      exact ⟨hn 0, by rw [hn 1]; rfl, by rw [o.2.2.1 2, w2]; rfl⟩
    · cases e : hsD[160]? with
      | none => rw [e] at iL; cases iL
      | some r =>
        rw [e] at iL
        have w : rP r 0 = none := Option.some.inj iL
        show gP σ pl 0 = none
        rw [(R.at hpl e).2.2.2.2 0, w]; rfl
  · -- HA
    exact ⟨kth, ⟨fld hth p4 hJ, kJ, gJq⟩, ⟨fld hth p5 hS, kS, by rw [gSq]; decide, by rw [gSq]; decide, by decide⟩, ⟨fld hth p7 hRn, kR⟩, ⟨fld hRn p2 hD, kD⟩, ⟨fld hRn p1 hW, kW⟩⟩
  · -- HU
    exact ⟨fun w => absurd (zu 15 (by decide)) w, fun w => absurd iD9.2.1 w⟩
  · -- HN
    exact ⟨⟨by decide, by decide, by decide, by decide⟩, fun g h1 h2 => zN g (by omega), ⟨by decide, by decide, by unfold T3; rw [z3]; omega⟩, by rw [iD9.1]; decide⟩
  · exact int1 hth i1
end STB

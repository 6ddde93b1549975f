/-! labels grow -/
def GE (D : List Nat) (gq ci gq' ci' : Nat → Nat) : Prop := ∀ a ∈ D, gq' a = gq a ∧ ci' a = ci a
theorem GE.rf {D : List Nat} {gq ci : Nat → Nat} : GE D gq ci gq ci := fun _ _ => ⟨rfl, rfl⟩
theorem GE.tr {D D1 : List Nat} {gq ci gq1 ci1 gq2 ci2 : Nat → Nat} (h : GE D gq ci gq1 ci1) (h2 : GE D1 gq1 ci1 gq2 ci2) (hs : ∀ d ∈ D, d ∈ D1) : GE D gq ci gq2 ci2 := fun a ha => ⟨(h2 a (hs a ha)).1.trans (h a ha).1, (h2 a (hs a ha)).2.trans (h a ha).2⟩
/-- tasks and channels may be made -/
def NW (nu nu' : Nat → Nat) : Prop := (∀ k, k ∉ [0, 1, 2, 8, 9, 10, 12, 15, 16, 17] → nu' k = nu k) ∧ nu 0 ≤ nu' 0 ∧ nu 1 ≤ nu' 1 ∧ nu 2 ≤ nu' 2
def NV (nu nu' : Nat → Nat) : Prop := (∀ k, k ∉ [0, 1, 2, 5, 8, 9, 10, 12, 15, 16, 17] → nu' k = nu k) ∧ (nu 0 ≤ nu' 0 ∧ nu 1 ≤ nu' 1 ∧ nu 2 ≤ nu' 2) ∧ nu' 5 ≤ nu 5 + 1
theorem NW.rf {nu : Nat → Nat} : NW nu nu := ⟨fun _ _ => rfl, Nat.le_refl _, Nat.le_refl _, Nat.le_refl _⟩
theorem NW.tr {nu nu1 nu2 : Nat → Nat} (h : NW nu nu1) (h2 : NW nu1 nu2) : NW nu nu2 := ⟨fun k q => (h2.1 k q).trans (h.1 k q), Nat.le_trans h.2.1 h2.2.1, Nat.le_trans h.2.2.1 h2.2.2.1, Nat.le_trans h.2.2.2 h2.2.2.2⟩
theorem NU.w {nu nu1 : Nat → Nat} (h : NU nu nu1) : NW nu nu1 := ⟨fun k q => h.1 k (fun w => q (by simp only [List.mem_cons, List.mem_nil_iff, or_false] at w ⊢; omega)), by rw [h.1 0 (by decide)]; exact Nat.le_refl _, by rw [h.1 1 (by decide)]; exact Nat.le_refl _, h.2⟩
theorem NW.x {nu nu1 nu2 : Nat → Nat} (h : NW nu nu1) (h2 : NX nu1 nu2) : NV nu nu2 := ⟨fun k q => (h2.1 k (fun w => q (by simp only [List.mem_cons, List.mem_nil_iff, or_false] at w ⊢; omega))).trans (h.1 k (fun w => q (by simp only [List.mem_cons, List.mem_nil_iff, or_false] at w ⊢; omega))), ⟨by rw [h2.1 0 (by decide)]; exact h.2.1, by rw [h2.1 1 (by decide)]; exact h.2.2.1, Nat.le_trans h.2.2.2 h2.2.1⟩, by have := h2.2.2; have := h.1 5 (by decide); omega⟩
theorem NW.v {nu nu1 nu2 : Nat → Nat} (h : NW nu nu1) (h2 : NV nu1 nu2) : NV nu nu2 := ⟨fun k q => (h2.1 k q).trans (h.1 k (fun w => q (by simp only [List.mem_cons, List.mem_nil_iff, or_false] at w ⊢; omega))), ⟨Nat.le_trans h.2.1 h2.2.1.1, Nat.le_trans h.2.2.1 h2.2.1.2.1, Nat.le_trans h.2.2.2 h2.2.1.2.2⟩, by have := h2.2.2; have := h.1 5 (by decide); omega⟩
theorem IV.pl15 {σ : Sg} {gq ci gr nc N nu : Nat → Nat} {ot : Nat → Nat → Int} {LL : Nat → List Nat} {pl x : Nat} (i : IV σ pl gq ci gr nc ot LL N nu) (hx : kO σ x 1) (hL : LL x ≠ []) (hq : gq x = 11 ∨ gq x = 12 ∨ gq x = 13) : ci x < nu 15 := by
  obtain ⟨r0, x1, z1, z2⟩ := i.2.1.2.2.2.2.2.2.1
  have := (i.ss.2.2.2.2.2.1 x hx hL).2.1 hq r0 x1
  omega
section NWT
variable {σ σ' σ0 : Sg} {gq ci gr nc N nu gq' ci' nu' : Nat → Nat} {ot : Nat → Nat → Int} {LL : Nat → List Nat} {pl a j T q q1 q2 q3 : Nat} {E : List Nat}
/-- things are new, and one place of an array leads to one of them -/
theorem sa_gwS (h : SA σ gq ci gr nu) (g : Gw E σ σ0) (e0 : σ' = pP σ0 a j (some q)) (ha : a ∈ gD σ) (hq : GE (gD σ) gq ci gq' ci') (hu : nu 0 ≤ nu' 0 ∧ nu 1 ≤ nu' 1 ∧ nu' 2 = nu 2)
    (kE : ∀ x ∈ E, gk σ0 x ≠ 100) (nI : ∀ x ∈ E, ∀ k, lbLo (gk σ0 x) k ≤ gI σ0 x k ∧ gI σ0 x k ≤ lbHi nu' (gk σ0 x) k) (nN : ∀ x ∈ E, ∀ k, lbN (gk σ0 x) k (gn σ0 x) = true → gP σ0 x k ≠ none)
    (nT : ∀ x ∈ E, ∀ k b, gP σ0 x k = some b → lbT nu' (gk σ0 x) (gq' x) (ci' x) k (gq' b) (ci' b) (gn σ0 b) (gr b) ∧ (lbX (gk σ0 x) k = true → kO σ0 b (lbG (gk σ0 x) k)))
    (sT : lbT nu' (gk σ a) (gq a) (ci a) j (gq' q) (ci' q) (gn σ0 q) (gr q) ∧ (lbX (gk σ a) j = true → kO σ0 q (lbG (gk σ a) j)))
    (u1 : ∀ x ∈ E, un1 (gk σ0 x) = false) (u2 : ∀ x ∈ E, ∀ b ∈ gD σ0, gk σ0 x = gk σ0 b → gq' x = gq' b → (ci' x = ci' b ∨ un3 (gk σ0 x) (gq' x) = true) → x = b) : SA σ' gq' ci' gr nu' := by
  obtain ⟨a1, a2, a3, a4, a5, a6⟩ := h
  have e := g.2.2.1
  subst e0
  have spl : ∀ b ∈ gD σ0, b ∈ gD σ ∨ b ∈ E := fun b hb => by rw [g.1] at hb; exact List.mem_append.mp hb
  have lb : ∀ b ∈ gD σ, labN σ0 gr b = labN σ gr b := fun b hb => labE e hb
  have lt : ∀ l qa ca k qb cb nb rb, lbT nu' l qa ca k qb cb nb rb = lbT nu l qa ca k qb cb nb rb := fun l qa ca k qb cb nb rb => by unfold lbT; rw [hu.2.2]
  have lh : ∀ l k, lbHi nu l k ≤ lbHi nu' l k := fun l k => by
    unfold lbHi; rw [hu.2.2]; repeat' (first | exact Int.le_refl _ | omega | split)
  have aE : a ∉ E := fun w => g.new w ha
  refine ⟨fun b hb => ⟨((a1 b hb).up e).1, ((a1 b hb).up e).2⟩, fun b hb k => ?_, fun b hb k hk => ?_, fun b hb k c hc => ?_, fun b hb c hc hk hu1 => ?_, fun b hb c hc hk hu2 hqq hcc => ?_⟩
  · show lbLo (labN σ0 gr b) k ≤ gI σ0 b k ∧ gI σ0 b k ≤ lbHi nu' (labN σ0 gr b) k
    rcases spl b hb with w | w
    · rw [lb b w, (g.2.2.2 b w k).1]; exact ⟨(a2 b w k).1, Int.le_trans (a2 b w k).2 (lh _ _)⟩
    · rw [show labN σ0 gr b = gk σ0 b by unfold labN; rw [if_neg (kE b w)]]; exact nI b w k
  · rw [gP_pP]
    by_cases z : b = a ∧ k = j
    · rw [z.1, z.2, up2_s]; simp
    · rw [up2_n _ _ z]
      rcases spl b hb with w | w
      · have hk : lbN (gk σ0 b) k (gn σ0 b) = true := hk
        rw [(e b w).2.1, (e b w).2.2] at hk; rw [(g.2.2.2 b w k).2.1]; exact a3 b w k hk
      · exact nN b w k hk
  · rw [gP_pP] at hc
    show lbT nu' (gk σ0 b) (gq' b) (ci' b) k (gq' c) (ci' c) (gn σ0 c) (gr c) ∧ (lbX (gk σ0 b) k = true → kO σ0 c (lbG (gk σ0 b) k))
    by_cases z : b = a ∧ k = j
    · obtain ⟨z1, z2⟩ := z
      subst z1 z2
      rw [up2_s] at hc; cases hc
      rw [(e b ha).2.1, (hq b ha).1, (hq b ha).2]; exact sT
    · rw [up2_n _ _ z] at hc
      rcases spl b hb with w | w
      · rw [(g.2.2.2 b w k).2.1] at hc
        rw [(e b w).2.1, (hq b w).1, (hq b w).2, lt]
        have old := a4 b w k c hc
        by_cases y : lbX (gk σ b) k = true
        · have hcD := (old.2 y).1
          rw [(e c hcD).2.2, (hq c hcD).1, (hq c hcD).2]; exact ⟨old.1, fun _ => (old.2 y).up e⟩
        · exact ⟨lbT_off (by revert y; cases lbX (gk σ b) k <;> simp), fun v => absurd v y⟩
      · exact nT b w k c hc
  · have hk : gk σ0 b = gk σ0 c := hk
    have hu1 : un1 (gk σ0 b) = true := hu1
    rcases spl b hb with w | w
    · rcases spl c hc with v | v
      · rw [(e b w).2.1, (e c v).2.1] at hk; rw [(e b w).2.1] at hu1; exact a5 b w c v hk hu1
      · rw [hk, u1 c v] at hu1; cases hu1
    · rw [u1 b w] at hu1; cases hu1
  · have hk : gk σ0 b = gk σ0 c := hk
    have hu2 : un2 (gk σ0 b) = true := hu2
    have hcc : ci' b = ci' c ∨ un3 (gk σ0 b) (gq' b) = true := hcc
    rcases spl b hb with w | w
    · rcases spl c hc with v | v
      · rw [(e b w).2.1] at hu2 hcc hk; rw [(e c v).2.1] at hk; rw [(hq b w).1, (hq b w).2, (hq c v).2] at hcc; rw [(hq b w).1, (hq c v).1] at hqq; exact a6 b w c v hk hu2 hqq hcc
      · refine (u2 c v b hb hk.symm hqq.symm ?_).symm
        rcases hcc with y | y
        · exact Or.inl y.symm
        · right; rw [← hk, ← hqq]; exact y
    · exact u2 b w c hc hk hqq hcc
theorem cnt_up {f f' : Nat → Option Nat} {j n : Nat} (hj : j < n) (h0 : f j = none) (h1 : (f' j).isSome = true) (he : ∀ i, i ≠ j → f' i = f i) : (List.range n).countP (fun i => (f' i).isSome) = (List.range n).countP (fun i => (f i).isSome) + 1 := by
  induction n with
  | zero => omega
  | succ n ih =>
    rw [List.range_succ, List.countP_append, List.countP_append, List.countP_singleton, List.countP_singleton]
    by_cases q : j = n
    · subst q
      rw [h0, h1]
      have : (List.range j).countP (fun i => (f' i).isSome) = (List.range j).countP (fun i => (f i).isSome) := by
        refine List.countP_congr (fun i hi => ?_)
        rw [he i (by have := List.mem_range.mp hi; omega)]
      rw [this]; simp
    · rw [ih (by omega), he n (fun w => q w.symm)]; omega
theorem cnt_le {f : Nat → Option Nat} {j n : Nat} (hj : j < n) (h0 : f j = none) : (List.range n).countP (fun i => (f i).isSome) + 1 ≤ n := by
  obtain ⟨f', hf'⟩ : ∃ f' : Nat → Option Nat, f' = fun i => if i = j then some 0 else f i := ⟨_, rfl⟩
  have := cnt_up (f := f) (f' := f') hj h0 (by rw [hf']; simp) (fun i hi => by rw [hf']; simp [hi])
  have l := List.countP_le_length (p := fun i => (f' i).isSome) (l := List.range n)
  rw [List.length_range] at l
  omega
theorem IV.room4 (h : IV σ pl gq ci gr nc ot LL N nu) : gc σ + 5 ≤ BC ∧ gs σ + 100 ≤ BS := by
  obtain ⟨i1, i2, i3, i4, i5, i6, i7, own, i8⟩ := h
  obtain ⟨a1, a2, a3, _⟩ := i6
  have b1 := i2.1
  have b2 := i2.2.2.2.2.2.1.1
  unfold KC at a1; unfold KS at a2
  show gc σ + 5 ≤ 590000 ∧ gs σ + 100 ≤ 7000000
  omega
theorem lb10 (l k : Nat) (hl : l = 10 ∨ l = 1 ∨ l = 2) : lbLo l k ≤ 0 ∧ (0 : Int) ≤ lbHi nu l k := by
  rcases hl with e | e | e <;> subst e <;> constructor
  · simp only [lbLo]; repeat' (first | omega | split)
  · simp only [lbHi]; repeat' (first | omega | split)
  · simp only [lbLo]; repeat' (first | omega | split)
  · simp only [lbHi]; repeat' (first | omega | split)
  · simp only [lbLo]; repeat' (first | omega | split)
  · simp only [lbHi]; repeat' (first | omega | split)
def lbT4 (T q q1 q2 q3 : Nat) (gq : Nat → Nat) : Nat → Nat := fun x => if x = q then T else if x = q1 then 10 * T + 1 else if x = q2 then 10 * T + 2 else if x = q3 then 10 * T + 3 else gq x
def lbC4 (j q q1 q2 q3 : Nat) (ci : Nat → Nat) : Nat → Nat := fun x => if x = q ∨ x = q1 ∨ x = q2 ∨ x = q3 then j else ci x
/-- a new task, put in its place -/
theorem IV.newT (h : IV σ pl gq ci gr nc ot LL N nu) (ka : kO σ a 120) (hT : gq a = T) (h3 : 1 ≤ T ∧ T ≤ 3) (hj : j < 64) (hn : gP σ a j = none) (h0 : T = 1 → j = nu 0)
    (g : Gw [q, q1, q2, q3] σ σ0) (e0 : σ' = pP σ0 a j (some q)) (kq : gk σ0 q = 10) (kc : ∀ x ∈ [q1, q2, q3], gk σ0 x = 1) (hI : ∀ x ∈ [q, q1, q2, q3], ∀ k, gI σ0 x k = 0) (hJ : ∀ x ∈ [q, q1, q2, q3], ∀ k, gJ σ0 x k = 0)
    (hP : ∀ k, gP σ0 q k = if k = 2 then some q1 else if k = 3 then some q2 else if k = 4 then some q3 else none) (hPc : ∀ x ∈ [q1, q2, q3], ∀ k, gP σ0 x k = none) (hc : gc σ0 = gc σ + 4) (hs : gs σ0 = gs σ + 25) (hR : RG σ0) :
    ∃ gq' ci' nu', IV σ' pl gq' ci' gr nc ot LL N nu' ∧ GE (gD σ) gq ci gq' ci' ∧ (nu' = up1 nu (if T = 1 then 0 else T + 6) (nu (if T = 1 then 0 else T + 6) + 1)) ∧ (gq' q = T ∧ ci' q = j) ∧ kO σ' q 10 ∧ gP σ' a j = some q := by
  obtain ⟨i1, i2, i3, i4, i5, i6, i7, own, i8⟩ := id h
  have ss := i4
  have e := g.2.2.1
  have nd := g.2.1; rw [g.1] at nd
  obtain ⟨nd1, nd2, nd3⟩ := List.nodup_append.mp nd
  simp only [List.nodup_cons, List.mem_cons, List.mem_nil_iff, or_false, not_or, List.not_mem_nil, not_false_eq_true, List.nodup_nil, and_true] at nd2
  obtain ⟨⟨d1, d2, d3⟩, ⟨d4, d5⟩, d6⟩ := nd2
  have hqg : GE (gD σ) gq ci (lbT4 T q q1 q2 q3 gq) (lbC4 j q q1 q2 q3 ci) := fun b hb => by
    have w : ∀ x ∈ [q, q1, q2, q3], b ≠ x := fun x hx z => g.new hx (z ▸ hb)
    have w0 := w q (by simp); have w1 := w q1 (by simp); have w2 := w q2 (by simp); have w3 := w q3 (by simp)
    unfold lbT4 lbC4
    exact ⟨by rw [if_neg w0, if_neg w1, if_neg w2, if_neg w3], by rw [if_neg (by simp [w0, w1, w2, w3])]⟩
  have t0 : lbT4 T q q1 q2 q3 gq q = T := by unfold lbT4; rw [if_pos rfl]
  have t1 : lbT4 T q q1 q2 q3 gq q1 = 10 * T + 1 := by unfold lbT4; rw [if_neg (fun w => d1 w.symm), if_pos rfl]
  have t2 : lbT4 T q q1 q2 q3 gq q2 = 10 * T + 2 := by unfold lbT4; rw [if_neg (fun w => d2 w.symm), if_neg (fun w => d4 w.symm), if_pos rfl]
  have t3 : lbT4 T q q1 q2 q3 gq q3 = 10 * T + 3 := by unfold lbT4; rw [if_neg (fun w => d3 w.symm), if_neg (fun w => d5 w.symm), if_neg (fun w => d6 w.symm), if_pos rfl]
  have cE : ∀ x ∈ [q, q1, q2, q3], lbC4 j q q1 q2 q3 ci x = j := fun x hx => by
    unfold lbC4; rw [if_pos (by simpa using hx)]
  generalize lbT4 T q q1 q2 q3 gq = gq' at hqg t0 t1 t2 t3 ⊢
  generalize lbC4 j q q1 q2 q3 ci = ci' at hqg cE ⊢
  have c0 := cE q (by simp); have c1 := cE q1 (by simp); have c2 := cE q2 (by simp); have c3 := cE q3 (by simp)
  have m10 : (if T = 1 then 0 else T + 6) = 0 ∨ (if T = 1 then 0 else T + 6) = 8 ∨ (if T = 1 then 0 else T + 6) = 9 := by split <;> omega
  have hnu : ∀ k, k ≠ (if T = 1 then 0 else T + 6) → up1 nu (if T = 1 then 0 else T + 6) (nu (if T = 1 then 0 else T + 6) + 1) k = nu k := fun k w => up1_n _ _ w
  have hnm : up1 nu (if T = 1 then 0 else T + 6) (nu (if T = 1 then 0 else T + 6) + 1) (if T = 1 then 0 else T + 6) = nu (if T = 1 then 0 else T + 6) + 1 := up1_s _ _ _
  refine ⟨gq', ci', _, ?_, hqg, rfl, ⟨t0, c0⟩, by rw [e0]; exact ⟨by rw [show gD (pP σ0 a j (some q)) = gD σ0 from rfl, g.1]; simp, kq⟩, by rw [e0, gP_pP, up2_s]⟩
  generalize up1 nu (if T = 1 then 0 else T + 6) (nu (if T = 1 then 0 else T + 6) + 1) = nu' at hnu hnm ⊢
  have n1 : nu' 1 = nu 1 := hnu 1 (by omega)
  have n2 : nu' 2 = nu 2 := hnu 2 (by omega)
  have n5 : nu' 5 = nu 5 := hnu 5 (by omega)
  have n10 : nu' 10 = nu 10 := hnu 10 (by omega)
  have n12 : nu' 12 = nu 12 := hnu 12 (by omega)
  have n13 : nu' 13 = nu 13 := hnu 13 (by omega)
  have n14 : nu' 14 = nu 14 := hnu 14 (by omega)
  have n15 : nu' 15 = nu 15 := hnu 15 (by omega)
  have n16 : nu' 16 = nu 16 := hnu 16 (by omega)
  have n17 : nu' 17 = nu 17 := hnu 17 (by omega)
  have hv : (T = 1 ∧ nu' 0 = nu 0 + 1 ∧ nu' 8 = nu 8 ∧ nu' 9 = nu 9) ∨ (T = 2 ∧ nu' 0 = nu 0 ∧ nu' 8 = nu 8 + 1 ∧ nu' 9 = nu 9) ∨ (T = 3 ∧ nu' 0 = nu 0 ∧ nu' 8 = nu 8 ∧ nu' 9 = nu 9 + 1) := by
    rcases (show T = 1 ∨ T = 2 ∨ T = 3 by omega) with w | w | w <;> subst w
    · exact Or.inl ⟨rfl, hnm, hnu 8 (by decide), hnu 9 (by decide)⟩
    · exact Or.inr (Or.inl ⟨rfl, hnu 0 (by decide), hnm, hnu 9 (by decide)⟩)
    · exact Or.inr (Or.inr ⟨rfl, hnu 0 (by decide), hnu 8 (by decide), hnm⟩)
  clear hnu hnm m10
  have mE : ∀ x ∈ [q, q1, q2, q3], x = q ∨ x = q1 ∨ x = q2 ∨ x = q3 := fun x hx => by simpa using hx
  have kq1 := kc q1 (by simp); have kq2 := kc q2 (by simp); have kq3 := kc q3 (by simp)
  have kE : ∀ x ∈ [q, q1, q2, q3], gk σ0 x = 10 ∨ gk σ0 x = 1 := fun x hx => by rcases mE x hx with w | w | w | w <;> subst w <;> simp [kq, kq1, kq2, kq3]
  have k0 : ∀ l, l ≠ 10 → l ≠ 1 → ∀ x ∈ [q, q1, q2, q3], gk σ0 x ≠ l := fun l l1 l2 x hx => by rcases kE x hx with v | v <;> omega
  have s : Sk [120 * 64] gr σ0 σ' := by rw [e0]; exact Sk.pP (by rw [fcdA (ka.up e) (by decide)]; decide)
  have pl8 := i2.2.2.2.2.2.1.2.2.1
  have dis : ∀ b ∈ gD σ, tlab (gk σ b) (gq b) = T → ci b ≠ j := fun b hb w v => by
    have := pl8 b hb (by omega) a ka (by omega)
    rw [v] at this; exact this.2 hn
  have hP' : ∀ b, b ∈ gD σ → ∀ k, ¬ (b = a ∧ k = j) → gP σ' b k = gP σ b k := fun b hb k w => by rw [e0, gP_pP, up2_n _ _ w]; exact (g.2.2.2 b hb k).2.1
  have hPa : gP σ' a j = some q := by rw [e0, gP_pP, up2_s]
  have pne : ∀ t, kO σ t 120 → ∀ k, gP σ t k ≠ none → gP σ' t k ≠ none := fun t ht k w => by
    by_cases z : t = a ∧ k = j
    · rw [z.1, z.2, hPa]; simp
    · rw [hP' t ht.1 k z]; exact w
  have uA : ∀ t, kO σ t 120 → gq t = T → t = a := fun t ht w => h.unq ht ka rfl rfl (by omega)
  have kold : ∀ b l, l ≠ 10 → l ≠ 1 → kO σ' b l → kO σ b l := fun b l l1 l2 hb => g.old (k0 l l1 l2) (s.ko.mp hb)
  refine ⟨?_, ?_, (i3.gw i1 g hqg (fun x hx => ⟨k0 9 (by decide) (by decide) x hx, k0 11 (by decide) (by decide) x hx, k0 3 (by decide) (by decide) x hx, k0 7 (by decide) (by decide) x hx⟩)).sk s (by decide), ?_, ?_, ?_, ⟨by rw [e0]; exact hR, ?_⟩, own, ?_⟩
  · refine sa_gwS i1 g e0 ka.1 hqg ⟨by omega, by omega, n2⟩ (k0 100 (by decide) (by decide)) (fun x hx k => by rw [hI x hx]; exact lb10 _ _ (by rcases kE x hx with v | v <;> omega)) (fun x hx k hk => ?_) (fun x hx k b hb => ?_) ?_ (fun x hx => by rcases kE x hx with v | v <;> rw [v] <;> rfl) (fun x hx b hb hk hq hcc => ?_)
    · rcases mE x hx with w | w | w | w <;> subst w
      · rw [kq] at hk
        have : k = 2 ∨ k = 3 ∨ k = 4 := by simpa [lbN] using hk
        rw [hP]; rcases this with v | v | v <;> subst v <;> simp
      · rw [kq1] at hk; exact absurd hk (by simp [lbN])
      · rw [kq2] at hk; exact absurd hk (by simp [lbN])
      · rw [kq3] at hk; exact absurd hk (by simp [lbN])
    · have no : ∀ x ∈ [q1, q2, q3], gP σ0 x k = some b → False := fun x hx w => by rw [hPc x hx k] at w; cases w
      rcases mE x hx with w | w | w | w <;> subst w
      · rw [hP] at hb; rw [kq]
        by_cases v2 : k = 2
        · subst v2; cases hb; exact ⟨(show gq' q1 = 10 * gq' x + 1 ∧ ci' q1 = ci' x by rw [t0, t1, c0, c1]; exact ⟨rfl, rfl⟩), fun _ => ⟨by rw [g.1]; simp, kq1⟩⟩
        · rw [if_neg v2] at hb
          by_cases v3 : k = 3
          · subst v3; cases hb; exact ⟨(show gq' q2 = 10 * gq' x + 2 ∧ ci' q2 = ci' x by rw [t0, t2, c0, c2]; exact ⟨rfl, rfl⟩), fun _ => ⟨by rw [g.1]; simp, kq2⟩⟩
          · rw [if_neg v3] at hb
            by_cases v4 : k = 4
            · subst v4; cases hb; exact ⟨(show gq' q3 = 10 * gq' x + 3 ∧ ci' q3 = ci' x by rw [t0, t3, c0, c3]; exact ⟨rfl, rfl⟩), fun _ => ⟨by rw [g.1]; simp, kq3⟩⟩
            · rw [if_neg v4] at hb; cases hb
      · exact (no x (by simp) hb).elim
      · exact (no x (by simp) hb).elim
      · exact (no x (by simp) hb).elim
    · rw [ka.2]; exact ⟨(show gq' q = gq a ∧ ci' q = j by rw [t0, c0]; exact ⟨hT.symm, rfl⟩), fun _ => ⟨by rw [g.1]; simp, kq⟩⟩
    · have old : ∀ b ∈ gD σ, gk σ0 x = gk σ0 b → gq' x = gq' b → (ci' x = ci' b ∨ un3 (gk σ0 x) (gq' x) = true) → x = b := fun b hb hk hq hcc => by
        exfalso
        rw [(e b hb).2.1] at hk; rw [(hqg b hb).1] at hq; rw [cE x hx, (hqg b hb).2] at hcc
        have u3 : un3 (gk σ0 x) (gq' x) = false := by
          rcases mE x hx with w | w | w | w <;> subst w
          · rw [kq]; rfl
          · rw [kq1, t1]; rcases (show T = 1 ∨ T = 2 ∨ T = 3 by omega) with v | v | v <;> subst v <;> decide
          · rw [kq2, t2]; rcases (show T = 1 ∨ T = 2 ∨ T = 3 by omega) with v | v | v <;> subst v <;> decide
          · rw [kq3, t3]; rcases (show T = 1 ∨ T = 2 ∨ T = 3 by omega) with v | v | v <;> subst v <;> decide
        rw [u3] at hcc
        have cj : ci b = j := by rcases hcc with v | v; exact v.symm; cases v
        refine dis b hb ?_ cj
        rw [← hk, ← hq]
        rcases mE x hx with w | w | w | w <;> subst w
        · rw [kq, t0]; rcases (show T = 1 ∨ T = 2 ∨ T = 3 by omega) with v | v | v <;> subst v <;> rfl
        · rw [kq1, t1]; rcases (show T = 1 ∨ T = 2 ∨ T = 3 by omega) with v | v | v <;> subst v <;> rfl
        · rw [kq2, t2]; rcases (show T = 1 ∨ T = 2 ∨ T = 3 by omega) with v | v | v <;> subst v <;> rfl
        · rw [kq3, t3]; rcases (show T = 1 ∨ T = 2 ∨ T = 3 by omega) with v | v | v <;> subst v <;> rfl
      rw [g.1] at hb
      rcases List.mem_append.mp hb with w | w
      · exact old b w hk hq hcc
      · rcases mE x hx with v | v | v | v <;> rcases mE b w with y | y | y | y <;> subst v <;> subst y <;> first
          | rfl
          | (exfalso; simp only [kq, kq1, kq2, kq3] at hk; omega)
          | (exfalso; simp only [t0, t1, t2, t3] at hq; omega)
  · obtain ⟨a1, a2, a3, a4, a5, ⟨a6, a7, a8, a9⟩, ⟨r0, x1, z1, z2⟩, ⟨w1, x2, y2⟩, ⟨w4, x3, y3⟩, ⟨dd0, x4⟩, ⟨p0, x5⟩⟩ := id i2
    have ko' : ∀ b l, kO σ b l → kO σ' b l := fun b l hb => s.ko.mpr (hb.up e)
    have sm : ∀ b l k, kO σ b l → l ≠ 120 → gI σ' b k = gI σ b k := fun b l k hb _ => by rw [e0]; exact (g.2.2.2 b hb.1 k).1
    have n0le : nu 0 ≤ nu' 0 := by omega
    have b0 : nu' 0 ≤ 64 := by
      rcases hv with v | v | v
      · have := h0 v.1; omega
      · omega
      · omega
    have slot1 : T = 1 → ∀ k, k < nu' 0 → gP σ' a k ≠ none := fun w k hk => by
      by_cases z : k = j
      · rw [z, hPa]; simp
      · rw [hP' a ka.1 k (fun v => z v.2)]; exact a2 a ka (by omega) k (by have := h0 w; omega)
    refine ⟨⟨b0, by omega⟩, fun t ht w k hk => ?_, fun t ht k hk => ?_, fun c hc w => ?_, fun r hr t ht w hi => ?_, ⟨by omega, fun t ht => ?_, fun x hx hl t ht w => ?_, fun x hx hl t ht => ?_⟩, ⟨r0, ko' _ _ x1, by rw [sm r0 9 10 x1 (by decide), n15]; exact z1, by rw [sm r0 9 11 x1 (by decide), n16]; exact z2⟩, ⟨w1, ko' _ _ x2, by rw [(hqg w1 x2.1).1]; exact y2⟩, ⟨w4, ko' _ _ x3, by rw [(hqg w4 x3.1).1]; exact y3⟩, ⟨dd0, ko' _ _ x4⟩, ⟨p0, ko' _ _ x5⟩⟩
    · have ht := kold t 120 (by decide) (by decide) ht
      rw [(hqg t ht.1).1] at w
      rcases hv with v | v | v
      · rw [uA t ht (by omega)]; exact slot1 v.1 k hk
      · exact pne t ht k (a2 t ht w k (by omega))
      · exact pne t ht k (a2 t ht w k (by omega))
    · have ht := kold t 112 (by decide) (by decide) ht
      rw [hP' t ht.1 k (fun v => absurd v.1 (ht.ne ka (by decide)))]; exact a3 t ht k (by omega)
    · have hc := kold c 2 (by decide) (by decide) hc
      rw [(hqg c hc.1).2] at w ⊢
      have := a4 c hc (by omega)
      rw [sm c 2 1 hc (by decide), sm c 2 2 hc (by decide), sm c 2 7 hc (by decide), n16]
      exact ⟨by omega, by omega, this.2.2⟩
    · have hr := kold r 9 (by decide) (by decide) hr
      rw [sm r 9 10 hr (by decide)] at hi
      have ht' := s.ko.mp ht
      rcases g.two ht' with v | v
      · rw [(hqg t v.1).1] at w; rw [(hqg t v.1).2] at hi
        rw [sm r 9 11 hr (by decide), sm t 10 11 v (by decide), sm t 10 12 v (by decide), sm t 10 14 v (by decide), sm t 10 15 v (by decide), sm t 10 0 v (by decide), n16, n17]
        exact a5 r hr t v w hi
      · exfalso
        have tq : t = q := by
          rcases mE t v.1 with y | y | y | y
          · exact y
          · rw [y, kq1] at v; have := v.2; omega
          · rw [y, kq2] at v; have := v.2; omega
          · rw [y, kq3] at v; have := v.2; omega
        rw [tq, t0] at w
        rw [cE t v.1, h0 w] at hi
        have := (I_9_10 i1 hr).2
        omega
    · have ht := kold t 112 (by decide) (by decide) ht
      rw [hP' t ht.1 _ (fun v => absurd v.1 (ht.ne ka (by decide))), n1, n10]; exact a7 t ht
    · have ht := kold t 120 (by decide) (by decide) ht
      have hx' := hx; rw [s.1, g.1] at hx'
      have hl' : tlab (gk σ0 x) (gq' x) ≠ 0 := by rw [← s.2.1]; exact hl
      have w' : gq' t = tlab (gk σ0 x) (gq' x) := by rw [← s.2.1]; exact w
      rw [(hqg t ht.1).1] at w'
      rcases List.mem_append.mp hx' with v | v
      · rw [(e x v).2.1, (hqg x v).1] at hl' w'
        rw [(hqg x v).2]
        exact ⟨(a8 x v hl' t ht w').1, pne t ht _ (a8 x v hl' t ht w').2⟩
      · rw [cE x v]
        have tT : tlab (gk σ0 x) (gq' x) = T := by
          rcases mE x v with y | y | y | y <;> subst y
          · rw [kq, t0]; rcases (show T = 1 ∨ T = 2 ∨ T = 3 by omega) with v | v | v <;> subst v <;> rfl
          · rw [kq1, t1]; rcases (show T = 1 ∨ T = 2 ∨ T = 3 by omega) with v | v | v <;> subst v <;> rfl
          · rw [kq2, t2]; rcases (show T = 1 ∨ T = 2 ∨ T = 3 by omega) with v | v | v <;> subst v <;> rfl
          · rw [kq3, t3]; rcases (show T = 1 ∨ T = 2 ∨ T = 3 by omega) with v | v | v <;> subst v <;> rfl
        rw [uA t ht (by omega), hPa]; exact ⟨hj, by simp⟩
    · have ht := kold t 112 (by decide) (by decide) ht
      have hx' := hx; rw [s.1, g.1] at hx'
      have hl' : clab (gk σ0 x) (gq' x) = true := by rw [← s.2.1]; exact hl
      rcases List.mem_append.mp hx' with v | v
      · rw [(e x v).2.1, (hqg x v).1] at hl'
        rw [(hqg x v).2, hP' t ht.1 _ (fun y => absurd y.1 (ht.ne ka (by decide))), s.2.1, (e x v).2.1, (hqg x v).1]; exact a9 x v hl' t ht
      · exfalso
        rcases mE x v with y | y | y | y <;> subst y
        · rw [kq] at hl'; simp [clab] at hl'
        · rw [kq1, t1] at hl'; simp [clab] at hl'; omega
        · rw [kq2, t2] at hl'; simp [clab] at hl'; omega
        · rw [kq3, t3] at hl'; simp [clab] at hl'; omega
  · obtain ⟨a1, a2, a3, a4, a5, a6, a7, a8⟩ := i4
    have inO : ∀ x, kO σ' x 1 → LL x ≠ [] → kO σ x 1 := fun x hx hL => by
      rcases i8.2.2.2.2.1 x hL with w | w
      · exfalso; have := (s.ko.mp hx).2; rw [w, (e pl i8.2.1.1.1).2.1, i8.2.1.1.2] at this; cases this
      · exact w
    refine ⟨by rw [s.1]; exact g.2.1, by rw [(hqg pl i8.2.1.1.1).1]; exact a2, fun g9 hg9 => by rw [s.1, ns_gw i8 g hqg g9]; exact a3 g9 hg9, fun x hx w => ?_, ?_, fun x hx hL => ?_, fun x hx w d hd => ?_, by rw [s.1, nt_gw i8 g]; exact a8⟩
    · by_cases z : LL x = []
      · rw [z]; simp
      · have hx := inO x hx z
        rw [(hqg x hx.1).1] at w; exact a4 x hx w
    · rw [s.1, s.2.1, cnt_gw g hqg, n10]
      have : [q, q1, q2, q3].countP (fun x => decide (gk σ0 x = 1 ∧ gq' x = 50)) = 0 := by
        rw [List.countP_eq_zero]
        intro x hx
        rcases mE x hx with y | y | y | y <;> subst y
        · simp [kq]
        · simp [t1]; omega
        · simp [t2]; omega
        · simp [t3]; omega
      omega
    · have hx := inO x hx hL
      obtain ⟨p1, p2, p3, p4, p5, p6, p7⟩ := a6 x hx hL
      unfold PlC
      rw [(hqg x hx.1).1, (hqg x hx.1).2]
      have rr : ∀ r, kO σ' r 9 → kO σ r 9 ∧ gI σ' r 10 = gI σ r 10 ∧ gI σ' r 11 = gI σ r 11 := fun r hr => by
        have hr := kold r 9 (by decide) (by decide) hr
        exact ⟨hr, by rw [e0]; exact (g.2.2.2 r hr.1 10).1, by rw [e0]; exact (g.2.2.2 r hr.1 11).1⟩
      refine ⟨p1, fun w r hr => by rw [(rr r hr).2.1]; exact p2 w r (rr r hr).1, fun w r hr => by rw [(rr r hr).2.2]; exact p3 w r (rr r hr).1, fun w t ht v => ?_, fun w t ht v => ?_, p6, fun w t ht v y => ?_⟩
      · have ht := kold t 120 (by decide) (by decide) ht
        rw [(hqg t ht.1).1] at v
        exact ⟨(p4 w t ht v).1, pne t ht _ (p4 w t ht v).2⟩
      · have ht := kold t 120 (by decide) (by decide) ht
        rw [(hqg t ht.1).1] at v
        exact ⟨(p5 w t ht v).1, pne t ht _ (p5 w t ht v).2⟩
      · rcases g.two (s.ko.mp ht) with z | z
        · rw [(hqg t z.1).1] at v; rw [(hqg t z.1).2] at y
          rw [show gI σ' t 0 = gI σ t 0 by rw [e0]; exact (g.2.2.2 t z.1 0).1]; exact p7 w t z v y
        · exfalso
          rw [cE t z.1] at y
          have tT : T = 1 := by
            rcases mE t z.1 with q9 | q9 | q9 | q9
            · rw [q9, t0] at v; exact v
            · rw [q9, kq1] at z; have := z.2; omega
            · rw [q9, kq2] at z; have := z.2; omega
            · rw [q9, kq3] at z; have := z.2; omega
          have := h.pl15 hx hL (by omega)
          have := h0 tT
          have := h.n16
          omega
    · have hx := inO x hx (fun z => by rw [z] at hd; cases hd)
      rw [(hqg x hx.1).1] at w
      have := a7 x hx w d hd
      rw [n16, show gI σ' d 3 = gI σ d 3 by rw [e0]; exact (g.2.2.2 d (i8.2.2.1 x d hd).2.1 3).1]; exact this
  · obtain ⟨o1, o2, o3, o4, o5⟩ := i5.gw i1 g hqg (fun x hx => ⟨k0 4 (by decide) (by decide) x hx, k0 5 (by decide) (by decide) x hx⟩)
    have eI : gI σ' = gI σ0 := by rw [e0]
    refine ⟨o1, o2, o3, fun o ho i hi w k k1 k2 => by rw [eI]; exact o4 o (s.ko.mp ho) i hi w k k1 k2, fun J hJ w => ?_⟩
    obtain ⟨f1, f2, f3⟩ := o5 J (s.ko.mp hJ) w
    refine ⟨by rw [eI]; exact f1, by rw [eI]; exact f2, fun b hb i hi => ?_⟩
    rw [e0, gP_pP, up2_n _ _ (fun v => absurd v.1 ((s.ko.mp hJ).ne (ka.up e) (by decide)))] at hb
    rw [eI]; exact f3 b hb i hi
  · obtain ⟨a1, a2, ⟨b0, b1, b2, b3, b4, b5, b6⟩, a4, a5, a6⟩ := id i6
    have gc' : gc σ' = gc σ + 4 := by rw [e0]; exact hc
    have gs' : gs σ' = gs σ + 25 := by rw [e0]; exact hs
    have gn' : ∀ b ∈ gD σ, gn σ' b = gn σ b := fun b hb => by rw [e0]; exact (e b hb).2.2
    have cn := cnt_le (f := fun i => gP σ a i) hj hn
    have cu := cnt_up (f := fun i => gP σ a i) (f' := fun i => gP σ' a i) hj hn (by show (gP σ' a j).isSome = true; rw [hPa]; rfl) (fun i hi => hP' a ka.1 i (fun v => hi v.2))
    have aa := a6 a ka
    refine ⟨by rw [gc']; rcases hv with v | v | v <;> omega, by rw [gs']; rcases hv with v | v | v <;> omega, ⟨by omega, ?_, ?_, by omega, by omega, by omega, b6⟩, fun p hp w hw => ?_, fun J hJ c hcc => ?_, fun t ht => ?_⟩
    · rcases hv with v | v | v
      · omega
      · have := aa.1 (by omega); omega
      · omega
    · rcases hv with v | v | v
      · omega
      · omega
      · have := aa.2 (by omega); omega
    · have hp := kold p 8 (by decide) (by decide) hp
      rw [hP' p hp.1 2 (fun v => absurd v.1 (hp.ne ka (by decide)))] at hw
      rw [gn' w (i1.mem hp rfl hw), n12]; exact a4 p hp w hw
    · have hJ := kold J 4 (by decide) (by decide) hJ
      have nj : ∀ k, gP σ' J k = gP σ J k := fun k => hP' J hJ.1 k (fun v => absurd v.1 (hJ.ne ka (by decide)))
      rw [nj] at hcc
      obtain ⟨x1, x2, x3, x4⟩ := a5 J hJ c hcc
      rw [gn' c (i1.mem hJ rfl hcc), (hqg J hJ.1).1, n13, n14, show gI σ' J 7 = gI σ J 7 by rw [e0]; exact (g.2.2.2 J hJ.1 7).1]
      refine ⟨x1, x2, fun m hm => ?_, x4⟩
      rw [nj] at hm; rw [gn' m (i1.mem hJ rfl hm)]; exact x3 m hm
    · have ht := kold t 120 (by decide) (by decide) ht
      rw [(hqg t ht.1).1]
      by_cases z : t = a
      · subst z
        rw [cu]
        refine ⟨fun w => ?_, fun w => ?_⟩
        · have := aa.1 w; rcases hv with v | v | v <;> omega
        · have := aa.2 w; rcases hv with v | v | v <;> omega
      · have ec : (fun i => (gP σ' t i).isSome) = (fun i => (gP σ t i).isSome) := by
          funext i; rw [hP' t ht.1 i (fun v => z v.1)]
        rw [ec]
        refine ⟨fun w => ?_, fun w => ?_⟩
        · have o := (a6 t ht).1 w
          rcases hv with v | v | v
          · omega
          · exact absurd (uA t ht (by omega)) z
          · omega
        · have o := (a6 t ht).2 w
          rcases hv with v | v | v
          · omega
          · omega
          · exact absurd (uA t ht (by omega)) z
  · exact (i7.2.gw g (fun b hb => (i1.1 b hb).1) (fun x hx w => absurd w (k0 0 (by decide) (by decide) x hx)) (fun x hx w => absurd w (k0 2 (by decide) (by decide) x hx)) (fun x hx w => hJ x hx 7)).sk s (by decide)
  · exact (i8.gw g (fun x hx w => by
      have : x = q1 ∨ x = q2 ∨ x = q3 := by
        rcases mE x hx with y | y
        · rw [y, kq] at w; cases w
        · exact y
      exact ⟨hPc x (by simpa using this) 0, hPc x (by simpa using this) 1, hI x hx 2⟩) (fun x hx w => absurd w (k0 0 (by decide) (by decide) x hx))).sk s (by decide)
end NWT
section NWC
variable {σ σ' σ0 : Sg} {gq ci gr nc N nu gq' ci' nu' : Nat → Nat} {ot : Nat → Nat → Int} {LL : Nat → List Nat} {pl a j q q1 : Nat} {E : List Nat}
/-- a new channel, put in its place -/
theorem IV.newC (h : IV σ pl gq ci gr nc ot LL N nu) (ka : kO σ a 112) (hj : j < 512) (hn : gP σ a j = none) (h0 : j = nu 1)
    (g : Gw [q, q1] σ σ0) (e0 : σ' = pP σ0 a j (some q)) (kq : gk σ0 q = 2) (kq1 : gk σ0 q1 = 1) (hI : ∀ x ∈ [q, q1], ∀ k, gI σ0 x k = 0) (hJ : ∀ x ∈ [q, q1], ∀ k, gJ σ0 x k = 0)
    (hP : ∀ k, gP σ0 q k = if k = 0 then some q1 else none) (hPc : ∀ k, gP σ0 q1 k = none) (hc : gc σ0 = gc σ + 2) (hs : gs σ0 = gs σ + 11) (hR : RG σ0) :
    ∃ gq' ci' nu', IV σ' pl gq' ci' gr nc ot LL N nu' ∧ GE (gD σ) gq ci gq' ci' ∧ (nu' = up1 (up1 nu 1 (nu 1 + 1)) 10 (nu 10 + 1)) ∧ ci' q = j ∧ kO σ' q 2 ∧ gP σ' a j = some q := by
  obtain ⟨i1, i2, i3, i4, i5, i6, i7, own, i8⟩ := id h
  have e := g.2.2.1
  have nd := g.2.1; rw [g.1] at nd
  obtain ⟨nd1, nd2, nd3⟩ := List.nodup_append.mp nd
  simp only [List.nodup_cons, List.mem_cons, List.mem_nil_iff, or_false, not_or, List.not_mem_nil, not_false_eq_true, List.nodup_nil, and_true] at nd2
  have d1 : q ≠ q1 := nd2
  have hqg : GE (gD σ) gq ci (fun x => if x = q then 0 else if x = q1 then 50 else gq x) (fun x => if x = q ∨ x = q1 then j else ci x) := fun b hb => by
    have w : ∀ x ∈ [q, q1], b ≠ x := fun x hx z => g.new hx (z ▸ hb)
    have w0 := w q (by simp); have w1 := w q1 (by simp)
    exact ⟨by show (if b = q then 0 else if b = q1 then 50 else gq b) = gq b; rw [if_neg w0, if_neg w1], by show (if b = q ∨ b = q1 then j else ci b) = ci b; rw [if_neg (by simp [w0, w1])]⟩
  have t0 : (fun x => if x = q then 0 else if x = q1 then 50 else gq x) q = 0 := if_pos rfl
  have t1 : (fun x => if x = q then 0 else if x = q1 then 50 else gq x) q1 = 50 := by show (if q1 = q then 0 else if q1 = q1 then 50 else gq q1) = 50; rw [if_neg (fun w => d1 w.symm), if_pos rfl]
  have cE : ∀ x ∈ [q, q1], (fun x => if x = q ∨ x = q1 then j else ci x) x = j := fun x hx => by
    show (if x = q ∨ x = q1 then j else ci x) = j; rw [if_pos (by simpa using hx)]
  refine ⟨_, _, _, ?_, hqg, rfl, cE q (by simp), by rw [e0]; exact ⟨by rw [show gD (pP σ0 a j (some q)) = gD σ0 from rfl, g.1]; simp, kq⟩, by rw [e0, gP_pP, up2_s]⟩
  generalize (fun x => if x = q then 0 else if x = q1 then 50 else gq x) = gq' at hqg t0 t1 ⊢
  generalize (fun x => if x = q ∨ x = q1 then j else ci x) = ci' at hqg cE ⊢
  have c0 := cE q (by simp); have c1 := cE q1 (by simp)
  have hnu : ∀ k, k ≠ 1 → k ≠ 10 → up1 (up1 nu 1 (nu 1 + 1)) 10 (nu 10 + 1) k = nu k := fun k w v => by rw [up1_n _ _ v, up1_n _ _ w]
  have n1 : up1 (up1 nu 1 (nu 1 + 1)) 10 (nu 10 + 1) 1 = nu 1 + 1 := by rw [up1_n _ _ (by decide), up1_s]
  have n10 : up1 (up1 nu 1 (nu 1 + 1)) 10 (nu 10 + 1) 10 = nu 10 + 1 := up1_s _ _ _
  generalize up1 (up1 nu 1 (nu 1 + 1)) 10 (nu 10 + 1) = nu' at hnu n1 n10 ⊢
  have n0 := hnu 0 (by decide) (by decide); have n2 := hnu 2 (by decide) (by decide); have n5 := hnu 5 (by decide) (by decide); have n8 := hnu 8 (by decide) (by decide); have n9 := hnu 9 (by decide) (by decide)
  have n12 := hnu 12 (by decide) (by decide); have n13 := hnu 13 (by decide) (by decide); have n14 := hnu 14 (by decide) (by decide); have n15 := hnu 15 (by decide) (by decide); have n16 := hnu 16 (by decide) (by decide); have n17 := hnu 17 (by decide) (by decide)
  clear hnu
  have mE : ∀ x ∈ [q, q1], x = q ∨ x = q1 := fun x hx => by simpa using hx
  have kE : ∀ x ∈ [q, q1], gk σ0 x = 2 ∨ gk σ0 x = 1 := fun x hx => by rcases mE x hx with w | w <;> subst w <;> simp [kq, kq1]
  have k0 : ∀ l, l ≠ 2 → l ≠ 1 → ∀ x ∈ [q, q1], gk σ0 x ≠ l := fun l l1 l2 x hx => by rcases kE x hx with v | v <;> omega
  have s : Sk [112 * 64] gr σ0 σ' := by rw [e0]; exact Sk.pP (by rw [fcdA (ka.up e) (by decide)]; decide)
  have pl9 := i2.2.2.2.2.2.1.2.2.2
  have dis : ∀ b ∈ gD σ, clab (gk σ b) (gq b) = true → ci b ≠ j := fun b hb w v => by
    have := pl9 b hb w a ka
    rw [v] at this; exact this.2.1 hn
  have hP' : ∀ b, b ∈ gD σ → ∀ k, ¬ (b = a ∧ k = j) → gP σ' b k = gP σ b k := fun b hb k w => by rw [e0, gP_pP, up2_n _ _ w]; exact (g.2.2.2 b hb k).2.1
  have hPa : gP σ' a j = some q := by rw [e0, gP_pP, up2_s]
  have uA : ∀ t, kO σ t 112 → t = a := fun t ht => h.un ht ka rfl
  have pne : ∀ t, kO σ t 112 → ∀ k, gP σ t k ≠ none → gP σ' t k ≠ none := fun t ht k w => by
    by_cases z : t = a ∧ k = j
    · rw [z.1, z.2, hPa]; simp
    · rw [hP' t ht.1 k z]; exact w
  have kold : ∀ b l, l ≠ 2 → l ≠ 1 → kO σ' b l → kO σ b l := fun b l l1 l2 hb => g.old (k0 l l1 l2) (s.ko.mp hb)
  refine ⟨?_, ?_, (i3.gw i1 g hqg (fun x hx => ⟨k0 9 (by decide) (by decide) x hx, k0 11 (by decide) (by decide) x hx, k0 3 (by decide) (by decide) x hx, k0 7 (by decide) (by decide) x hx⟩)).sk s (by decide), ?_, ?_, ?_, ⟨by rw [e0]; exact hR, ?_⟩, own, ?_⟩
  · refine sa_gwS i1 g e0 ka.1 hqg ⟨by omega, by omega, n2⟩ (k0 100 (by decide) (by decide)) (fun x hx k => by rw [hI x hx]; exact lb10 _ _ (by rcases kE x hx with v | v <;> omega)) (fun x hx k hk => ?_) (fun x hx k b hb => ?_) ?_ (fun x hx => by rcases kE x hx with v | v <;> rw [v] <;> rfl) (fun x hx b hb hk hq hcc => ?_)
    · rcases mE x hx with w | w <;> subst w
      · rw [kq] at hk
        have : k = 0 := by simpa [lbN] using hk
        rw [hP, this]; simp
      · rw [kq1] at hk; exact absurd hk (by simp [lbN])
    · rcases mE x hx with w | w <;> subst w
      · rw [hP] at hb; rw [kq]
        by_cases v2 : k = 0
        · subst v2; cases hb; exact ⟨(show gq' q1 = 50 ∧ ci' q1 = ci' x by rw [t1, c0, c1]; exact ⟨rfl, rfl⟩), fun _ => ⟨by rw [g.1]; simp, kq1⟩⟩
        · rw [if_neg v2] at hb; cases hb
      · rw [hPc] at hb; cases hb
    · rw [ka.2]; exact ⟨(show ci' q = j from c0), fun _ => ⟨by rw [g.1]; simp, kq⟩⟩
    · have old : ∀ b ∈ gD σ, gk σ0 x = gk σ0 b → gq' x = gq' b → (ci' x = ci' b ∨ un3 (gk σ0 x) (gq' x) = true) → x = b := fun b hb hk hq hcc => by
        exfalso
        rw [(e b hb).2.1] at hk; rw [(hqg b hb).1] at hq; rw [cE x hx, (hqg b hb).2] at hcc
        have u3 : un3 (gk σ0 x) (gq' x) = false := by
          rcases mE x hx with w | w <;> subst w
          · rw [kq]; rfl
          · rw [kq1, t1]; rfl
        rw [u3] at hcc
        have cj : ci b = j := by rcases hcc with v | v; exact v.symm; cases v
        refine dis b hb ?_ cj
        rw [← hk, ← hq]
        rcases mE x hx with w | w <;> subst w
        · rw [kq]; rfl
        · rw [kq1, t1]; rfl
      rw [g.1] at hb
      rcases List.mem_append.mp hb with w | w
      · exact old b w hk hq hcc
      · rcases mE x hx with v | v <;> rcases mE b w with y | y <;> subst v <;> subst y <;> first
          | rfl
          | (exfalso; simp only [kq, kq1] at hk; omega)
  · obtain ⟨a1, a2, a3, a4, a5, ⟨a6, a7, a8, a9⟩, ⟨r0, x1, z1, z2⟩, ⟨w1, x2, y2⟩, ⟨w4, x3, y3⟩, ⟨dd0, x4⟩, ⟨p0, x5⟩⟩ := id i2
    have ko' : ∀ b l, kO σ b l → kO σ' b l := fun b l hb => s.ko.mpr (hb.up e)
    have sm : ∀ b l k, kO σ b l → gI σ' b k = gI σ b k := fun b l k hb => by rw [e0]; exact (g.2.2.2 b hb.1 k).1
    have no10 : nu 10 ≤ nu 1 := (a7 a ka).resolve_right (fun w => w (by rw [← h0]; exact hn))
    refine ⟨⟨by omega, by omega⟩, fun t ht w k hk => ?_, fun t ht k hk => ?_, fun c hc w => ?_, fun r hr t ht w hi => ?_, ⟨by omega, fun t ht => Or.inl (by omega), fun x hx hl t ht w => ?_, fun x hx hl t ht => ?_⟩, ⟨r0, ko' _ _ x1, by rw [sm r0 9 10 x1, n15]; exact z1, by rw [sm r0 9 11 x1, n16]; exact z2⟩, ⟨w1, ko' _ _ x2, by rw [(hqg w1 x2.1).1]; exact y2⟩, ⟨w4, ko' _ _ x3, by rw [(hqg w4 x3.1).1]; exact y3⟩, ⟨dd0, ko' _ _ x4⟩, ⟨p0, ko' _ _ x5⟩⟩
    · have ht := kold t 120 (by decide) (by decide) ht
      rw [(hqg t ht.1).1] at w
      rw [hP' t ht.1 k (fun v => absurd v.1 (ht.ne ka (by decide)))]; exact a2 t ht w k (by omega)
    · have ht := kold t 112 (by decide) (by decide) ht
      rw [uA t ht]
      by_cases z : k = j
      · rw [z, hPa]; simp
      · rw [hP' a ka.1 k (fun v => z v.2)]; exact a3 a ka k (by omega)
    · rcases g.two (s.ko.mp hc) with v | v
      · rw [(hqg c v.1).2] at w ⊢
        rw [sm c 2 1 v, sm c 2 2 v, sm c 2 7 v, n16, n0]; exact a4 c v (by omega)
      · exfalso; rw [cE c v.1] at w
        have := (I_9_11 i1 x1).2; omega
    · have hr := kold r 9 (by decide) (by decide) hr
      have ht := kold t 10 (by decide) (by decide) ht
      rw [sm r 9 10 hr] at hi
      rw [(hqg t ht.1).1] at w; rw [(hqg t ht.1).2] at hi
      rw [sm r 9 11 hr, sm t 10 11 ht, sm t 10 12 ht, sm t 10 14 ht, sm t 10 15 ht, sm t 10 0 ht, n16, n17]
      exact a5 r hr t ht w hi
    · have ht := kold t 120 (by decide) (by decide) ht
      have hx' := hx; rw [s.1, g.1] at hx'
      have hl' : tlab (gk σ0 x) (gq' x) ≠ 0 := by rw [← s.2.1]; exact hl
      have w' : gq' t = tlab (gk σ0 x) (gq' x) := by rw [← s.2.1]; exact w
      rw [(hqg t ht.1).1] at w'
      rcases List.mem_append.mp hx' with v | v
      · rw [(e x v).2.1, (hqg x v).1] at hl' w'
        rw [(hqg x v).2, hP' t ht.1 _ (fun y => absurd y.1 (ht.ne ka (by decide)))]
        exact a8 x v hl' t ht w'
      · exfalso
        rcases mE x v with y | y <;> subst y
        · rw [kq] at hl'; exact hl' rfl
        · rw [kq1, t1] at hl'; exact hl' rfl
    · have ht := kold t 112 (by decide) (by decide) ht
      have hx' := hx; rw [s.1, g.1] at hx'
      have hl' : clab (gk σ0 x) (gq' x) = true := by rw [← s.2.1]; exact hl
      rcases List.mem_append.mp hx' with v | v
      · rw [(e x v).2.1, (hqg x v).1] at hl'
        rw [(hqg x v).2, s.2.1, (e x v).2.1, (hqg x v).1]
        exact ⟨(a9 x v hl' t ht).1, pne t ht _ (a9 x v hl' t ht).2.1, (a9 x v hl' t ht).2.2⟩
      · rw [cE x v, uA t ht, hPa, s.2.1]
        refine ⟨hj, by simp, fun w => ?_⟩
        rcases mE x v with y | y <;> subst y
        · exact t0
        · rw [kq1] at w; cases w
  · obtain ⟨a1, a2, a3, a4, a5, a6, a7, a8⟩ := i4
    have inO : ∀ x, kO σ' x 1 → LL x ≠ [] → kO σ x 1 := fun x hx hL => by
      rcases i8.2.2.2.2.1 x hL with w | w
      · exfalso; have := (s.ko.mp hx).2; rw [w, (e pl i8.2.1.1.1).2.1, i8.2.1.1.2] at this; cases this
      · exact w
    refine ⟨by rw [s.1]; exact g.2.1, by rw [(hqg pl i8.2.1.1.1).1]; exact a2, fun g9 hg9 => by rw [s.1, ns_gw i8 g hqg g9]; exact a3 g9 hg9, fun x hx w => ?_, ?_, fun x hx hL => ?_, fun x hx w d hd => ?_, by rw [s.1, nt_gw i8 g]; exact a8⟩
    · by_cases z : LL x = []
      · rw [z]; simp
      · have hx := inO x hx z
        rw [(hqg x hx.1).1] at w; exact a4 x hx w
    · rw [s.1, s.2.1, cnt_gw g hqg, n10]
      have : [q, q1].countP (fun x => decide (gk σ0 x = 1 ∧ gq' x = 50)) ≤ 1 := by
        rw [List.countP_cons, List.countP_singleton]; simp [kq]; split <;> omega
      omega
    · have hx := inO x hx hL
      obtain ⟨p1, p2, p3, p4, p5, p6, p7⟩ := a6 x hx hL
      unfold PlC
      rw [(hqg x hx.1).1, (hqg x hx.1).2]
      have rr : ∀ r, kO σ' r 9 → kO σ r 9 ∧ gI σ' r 10 = gI σ r 10 ∧ gI σ' r 11 = gI σ r 11 := fun r hr => by
        have hr := kold r 9 (by decide) (by decide) hr
        exact ⟨hr, by rw [e0]; exact (g.2.2.2 r hr.1 10).1, by rw [e0]; exact (g.2.2.2 r hr.1 11).1⟩
      refine ⟨p1, fun w r hr => by rw [(rr r hr).2.1]; exact p2 w r (rr r hr).1, fun w r hr => by rw [(rr r hr).2.2]; exact p3 w r (rr r hr).1, fun w t ht v => ?_, fun w t ht v => ?_, p6, fun w t ht v y => ?_⟩
      · have ht := kold t 120 (by decide) (by decide) ht
        rw [(hqg t ht.1).1] at v
        rw [hP' t ht.1 _ (fun y => absurd y.1 (ht.ne ka (by decide)))]; exact p4 w t ht v
      · have ht := kold t 120 (by decide) (by decide) ht
        rw [(hqg t ht.1).1] at v
        rw [hP' t ht.1 _ (fun y => absurd y.1 (ht.ne ka (by decide)))]; exact p5 w t ht v
      · have ht := kold t 10 (by decide) (by decide) ht
        rw [(hqg t ht.1).1] at v; rw [(hqg t ht.1).2] at y
        rw [show gI σ' t 0 = gI σ t 0 by rw [e0]; exact (g.2.2.2 t ht.1 0).1]; exact p7 w t ht v y
    · have hx := inO x hx (fun z => by rw [z] at hd; cases hd)
      rw [(hqg x hx.1).1] at w
      have := a7 x hx w d hd
      rw [n16, show gI σ' d 3 = gI σ d 3 by rw [e0]; exact (g.2.2.2 d (i8.2.2.1 x d hd).2.1 3).1]; exact this
  · obtain ⟨o1, o2, o3, o4, o5⟩ := i5.gw i1 g hqg (fun x hx => ⟨k0 4 (by decide) (by decide) x hx, k0 5 (by decide) (by decide) x hx⟩)
    have eI : gI σ' = gI σ0 := by rw [e0]
    refine ⟨o1, o2, o3, fun o ho i hi w k k1 k2 => by rw [eI]; exact o4 o (s.ko.mp ho) i hi w k k1 k2, fun J hJ w => ?_⟩
    obtain ⟨f1, f2, f3⟩ := o5 J (s.ko.mp hJ) w
    refine ⟨by rw [eI]; exact f1, by rw [eI]; exact f2, fun b hb i hi => ?_⟩
    rw [e0, gP_pP, up2_n _ _ (fun v => absurd v.1 ((s.ko.mp hJ).ne (ka.up e) (by decide)))] at hb
    rw [eI]; exact f3 b hb i hi
  · obtain ⟨a1, a2, ⟨b0, b1, b2, b3, b4, b5, b6⟩, a4, a5, a6⟩ := id i6
    have gc' : gc σ' = gc σ + 2 := by rw [e0]; exact hc
    have gs' : gs σ' = gs σ + 11 := by rw [e0]; exact hs
    have gn' : ∀ b ∈ gD σ, gn σ' b = gn σ b := fun b hb => by rw [e0]; exact (e b hb).2.2
    refine ⟨by rw [gc']; omega, by rw [gs']; omega, ⟨by omega, by omega, by omega, by omega, by omega, by omega, b6⟩, fun p hp w hw => ?_, fun J hJ c hcc => ?_, fun t ht => ?_⟩
    · have hp := kold p 8 (by decide) (by decide) hp
      rw [hP' p hp.1 2 (fun v => absurd v.1 (hp.ne ka (by decide)))] at hw
      rw [gn' w (i1.mem hp rfl hw), n12]; exact a4 p hp w hw
    · have hJ := kold J 4 (by decide) (by decide) hJ
      have nj : ∀ k, gP σ' J k = gP σ J k := fun k => hP' J hJ.1 k (fun v => absurd v.1 (hJ.ne ka (by decide)))
      rw [nj] at hcc
      obtain ⟨x1, x2, x3, x4⟩ := a5 J hJ c hcc
      rw [gn' c (i1.mem hJ rfl hcc), (hqg J hJ.1).1, n13, n14, show gI σ' J 7 = gI σ J 7 by rw [e0]; exact (g.2.2.2 J hJ.1 7).1]
      refine ⟨x1, x2, fun m hm => ?_, x4⟩
      rw [nj] at hm; rw [gn' m (i1.mem hJ rfl hm)]; exact x3 m hm
    · have ht := kold t 120 (by decide) (by decide) ht
      have ec : (fun i => (gP σ' t i).isSome) = (fun i => (gP σ t i).isSome) := by
        funext i; rw [hP' t ht.1 i (fun v => absurd v.1 (ht.ne ka (by decide)))]
      rw [(hqg t ht.1).1, ec, n8, n9]; exact a6 t ht
  · exact (i7.2.gw g (fun b hb => (i1.1 b hb).1) (fun x hx w => absurd w (k0 0 (by decide) (by decide) x hx)) (fun x hx w => hJ x hx 4) (fun x hx w => absurd w (k0 10 (by decide) (by decide) x hx))).sk s (by decide)
  · exact (i8.gw g (fun x hx w => by
      have : x = q1 := by
        rcases mE x hx with y | y
        · rw [y, kq] at w; cases w
        · exact y
      rw [this]; exact ⟨hPc 0, hPc 1, hI q1 (by simp) 2⟩) (fun x hx w => absurd w (k0 0 (by decide) (by decide) x hx))).sk s (by decide)
end NWC
section WPN
variable {σ : Sg} {X : Sg → String → Prop}
theorem i_newTask {Q : Nat → Sg → Prop} (hr : gc σ + 5 ≤ BC ∧ gs σ + 100 ≤ BS) (hnd : (gD σ).Nodup) (hR : RG σ)
    (hQ : ∀ q q1 q2 q3 σ0, Gw [q, q1, q2, q3] σ σ0 → gk σ0 q = 10 → (∀ x ∈ [q1, q2, q3], gk σ0 x = 1) → (∀ x ∈ [q, q1, q2, q3], ∀ k, gI σ0 x k = 0) → (∀ x ∈ [q, q1, q2, q3], ∀ k, gJ σ0 x k = 0) →
      (∀ k, gP σ0 q k = if k = 2 then some q1 else if k = 3 then some q2 else if k = 4 then some q3 else none) → (∀ x ∈ [q1, q2, q3], ∀ k, gP σ0 x k = none) → gc σ0 = gc σ + 4 → gs σ0 = gs σ + 25 → RG σ0 → Q q σ0) :
    (gc σ + 1 ≤ BC ∧ gs σ + 16 ≤ BS) ∧ ∀ q, q ∉ gD σ → ∀ σ1, σ1 = new1 σ q 10 16 → wp_X10_init q σ1 (fun σ2 (_ : Unit) => ∀ _ : Ext σ1 σ2, Q q σ2) X := by
  refine ⟨⟨by omega, by omega⟩, fun q hq σ1 e1 => ?_⟩
  unfold wp_X10_init w_X10_init_0
  refine ⟨by rw [e1]; exact ⟨by show gc σ + 1 + 1 ≤ BC; omega, by show gs σ + 16 + 3 ≤ BS; omega⟩, fun q1 h1 σ14 e14 => ?_⟩
  unfold wp_X1_init w_X1_init_0
  intro _ σ16 e16
  refine ⟨by rw [e16, e14, e1]; exact ⟨by show gc σ + 1 + 1 + 1 ≤ BC; omega, by show gs σ + 16 + 3 + 3 ≤ BS; omega⟩, fun q2 h2 σ18 e18 => ?_⟩
  intro _ σ20 e20
  refine ⟨by rw [e20, e18, e16, e14, e1]; exact ⟨by show gc σ + 1 + 1 + 1 + 1 ≤ BC; omega, by show gs σ + 16 + 3 + 3 + 3 ≤ BS; omega⟩, fun q3 h3 σ22 e22 => ?_⟩
  intro _ σ24 e24 _
  have D1 : gD σ1 = gD σ ++ [q] := by rw [e1]
  have D16 : gD σ16 = gD σ ++ [q] ++ [q1] := by rw [e16, e14]; show gD σ1 ++ [q1] = _; rw [D1]
  have D20 : gD σ20 = gD σ ++ [q] ++ [q1] ++ [q2] := by rw [e20, e18]; show gD σ16 ++ [q2] = _; rw [D16]
  have D24 : gD σ24 = gD σ ++ [q] ++ [q1] ++ [q2] ++ [q3] := by rw [e24, e22]; show gD σ20 ++ [q3] = _; rw [D20]
  rw [D1] at h1; rw [D16] at h2; rw [D20] at h3
  simp only [List.mem_append, List.mem_singleton, not_or] at h1 h2 h3
  have hk : ∀ b, gk σ24 b = if b = q3 then 1 else if b = q2 then 1 else if b = q1 then 1 else if b = q then 10 else gk σ b := fun b => by rw [e24, e22, e20, e18, e16, e14, e1]; rfl
  have hI : ∀ b k, gI σ24 b k = if b = q3 then 0 else if b = q2 then 0 else if b = q1 then 0 else if b = q then 0 else gI σ b k := fun b k => by rw [e24, e22, e20, e18, e16, e14, e1]
  have hJ : ∀ b k, gJ σ24 b k = if b = q3 then 0 else if b = q2 then 0 else if b = q1 then 0 else if b = q then 0 else gJ σ b k := fun b k => by rw [e24, e22, e20, e18, e16, e14, e1]
  have hP : ∀ b k, gP σ24 b k = if b = q ∧ k = 4 then some q3 else if b = q3 then none else if b = q ∧ k = 3 then some q2 else if b = q2 then none else if b = q ∧ k = 2 then some q1 else if b = q1 then none else if b = q then none else gP σ b k := fun b k => by rw [e24, e22, e20, e18, e16, e14, e1]; rfl
  have hn : ∀ b, gn σ24 b = gn σ b := fun b => by rw [e24, e22, e20, e18, e16, e14, e1]
  have q01 : q1 ≠ q := h1.2
  have q02 : q2 ≠ q := h2.1.2
  have q12 : q2 ≠ q1 := h2.2
  have q03 : q3 ≠ q := h3.1.1.2
  have q13 : q3 ≠ q1 := h3.1.2
  have q23 : q3 ≠ q2 := h3.2
  have ne : ∀ b ∈ gD σ, b ≠ q ∧ b ≠ q1 ∧ b ≠ q2 ∧ b ≠ q3 := fun b hb => ⟨fun w => hq (w ▸ hb), fun w => h1.1 (w ▸ hb), fun w => h2.1.1 (w ▸ hb), fun w => h3.1.1.1 (w ▸ hb)⟩
  have mE : ∀ x ∈ [q, q1, q2, q3], x = q ∨ x = q1 ∨ x = q2 ∨ x = q3 := fun x hx => by simpa using hx
  have m3 : ∀ x ∈ [q1, q2, q3], x = q1 ∨ x = q2 ∨ x = q3 := fun x hx => by simpa using hx
  have hI0 : ∀ x ∈ [q, q1, q2, q3], ∀ k, gI σ24 x k = 0 := fun x hx k => by
    rw [hI]; rcases mE x hx with w | w | w | w <;> subst w <;> simp
  refine hQ q q1 q2 q3 σ24 ⟨by rw [D24]; simp, ?_, fun b hb => ⟨by rw [D24]; simp [hb], ?_, hn b⟩, fun b hb k => ?_⟩ ?_ (fun x hx => ?_) hI0 (fun x hx k => ?_) (fun k => ?_) (fun x hx k => ?_) (by rw [e24, e22, e20, e18, e16, e14, e1]) (by rw [e24, e22, e20, e18, e16, e14, e1]) (fun b k => ?_)
  · rw [D24]
    simp only [List.append_assoc, List.cons_append, List.nil_append]
    refine List.nodup_append.mpr ⟨hnd, ?_, fun b hb c hc w => ?_⟩
    · simp only [List.nodup_cons, List.mem_cons, List.mem_nil_iff, or_false, not_or, List.not_mem_nil, not_false_eq_true, List.nodup_nil, and_true]; exact ⟨⟨q01.symm, q02.symm, q03.symm⟩, ⟨q12.symm, q13.symm⟩, q23.symm⟩
    · have := ne b hb; subst w
      rcases mE b hc with v | v | v | v
      · exact this.1 v
      · exact this.2.1 v
      · exact this.2.2.1 v
      · exact this.2.2.2 v
  · have := ne b hb; rw [hk, if_neg this.2.2.2, if_neg this.2.2.1, if_neg this.2.1, if_neg this.1]
  · have := ne b hb
    exact ⟨by rw [hI, if_neg this.2.2.2, if_neg this.2.2.1, if_neg this.2.1, if_neg this.1], by rw [hP, if_neg (fun v => this.1 v.1), if_neg this.2.2.2, if_neg (fun v => this.1 v.1), if_neg this.2.2.1, if_neg (fun v => this.1 v.1), if_neg this.2.1, if_neg this.1], by rw [hJ, if_neg this.2.2.2, if_neg this.2.2.1, if_neg this.2.1, if_neg this.1]⟩
  · rw [hk, if_neg (fun w => q03 w.symm), if_neg (fun w => q02 w.symm), if_neg (fun w => q01 w.symm), if_pos rfl]
  · rw [hk]; rcases m3 x hx with w | w | w <;> subst w <;> simp
  · rw [hJ]; rcases mE x hx with w | w | w | w <;> subst w <;> simp
  · rw [hP]
    by_cases v4 : k = 4
    · subst v4; simp
    · rw [if_neg (fun w => v4 w.2), if_neg (fun w => q03 w.symm)]
      by_cases v3 : k = 3
      · subst v3; simp
      · rw [if_neg (fun w => v3 w.2), if_neg (fun w => q02 w.symm)]
        by_cases v2 : k = 2
        · subst v2; simp
        · rw [if_neg (fun w => v2 w.2), if_neg (fun w => q01 w.symm), if_pos rfl, if_neg v2, if_neg v3, if_neg v4]
  · rw [hP]
    rcases m3 x hx with w | w | w <;> subst w
    · rw [if_neg (fun v => q01 v.1), if_neg (fun v => q13 v.symm), if_neg (fun v => q01 v.1), if_neg (fun v => q12 v.symm), if_neg (fun v => q01 v.1), if_pos rfl]
    · rw [if_neg (fun v => q02 v.1), if_neg (fun v => q23 v.symm), if_neg (fun v => q02 v.1), if_pos rfl]
    · rw [if_neg (fun v => q03 v.1), if_pos rfl]
  · rw [hI]; repeat' split
    all_goals first | exact hR b k | (unfold rng; omega)
theorem i_newChan {Q : Nat → Sg → Prop} (hr : gc σ + 5 ≤ BC ∧ gs σ + 100 ≤ BS) (hnd : (gD σ).Nodup) (hR : RG σ)
    (hQ : ∀ q q1 σ0, Gw [q, q1] σ σ0 → gk σ0 q = 2 → gk σ0 q1 = 1 → (∀ x ∈ [q, q1], ∀ k, gI σ0 x k = 0) → (∀ x ∈ [q, q1], ∀ k, gJ σ0 x k = 0) →
      (∀ k, gP σ0 q k = if k = 0 then some q1 else none) → (∀ k, gP σ0 q1 k = none) → gc σ0 = gc σ + 2 → gs σ0 = gs σ + 11 → RG σ0 → Q q σ0) :
    (gc σ + 1 ≤ BC ∧ gs σ + 8 ≤ BS) ∧ ∀ q, q ∉ gD σ → ∀ σ1, σ1 = new1 σ q 2 8 → wp_X2_init q σ1 (fun σ2 (_ : Unit) => ∀ _ : Ext σ1 σ2, Q q σ2) X := by
  refine ⟨⟨by omega, by omega⟩, fun q hq σ1 e1 => ?_⟩
  unfold wp_X2_init w_X2_init_0
  refine ⟨by rw [e1]; exact ⟨by show gc σ + 1 + 1 ≤ BC; omega, by show gs σ + 8 + 3 ≤ BS; omega⟩, fun q1 h1 σ14 e14 => ?_⟩
  unfold wp_X1_init w_X1_init_0
  intro _ σ24 e24 _
  have D1 : gD σ1 = gD σ ++ [q] := by rw [e1]
  have D24 : gD σ24 = gD σ ++ [q] ++ [q1] := by rw [e24, e14]; show gD σ1 ++ [q1] = _; rw [D1]
  rw [D1] at h1
  simp only [List.mem_append, List.mem_singleton, not_or] at h1
  have hk : ∀ b, gk σ24 b = if b = q1 then 1 else if b = q then 2 else gk σ b := fun b => by rw [e24, e14, e1]; rfl
  have hI : ∀ b k, gI σ24 b k = if b = q1 then 0 else if b = q then 0 else gI σ b k := fun b k => by rw [e24, e14, e1]
  have hJ : ∀ b k, gJ σ24 b k = if b = q1 then 0 else if b = q then 0 else gJ σ b k := fun b k => by rw [e24, e14, e1]
  have hP : ∀ b k, gP σ24 b k = if b = q ∧ k = 0 then some q1 else if b = q1 then none else if b = q then none else gP σ b k := fun b k => by rw [e24, e14, e1]; rfl
  have hn : ∀ b, gn σ24 b = gn σ b := fun b => by rw [e24, e14, e1]
  have q01 : q1 ≠ q := h1.2
  have ne : ∀ b ∈ gD σ, b ≠ q ∧ b ≠ q1 := fun b hb => ⟨fun w => hq (w ▸ hb), fun w => h1.1 (w ▸ hb)⟩
  have mE : ∀ x ∈ [q, q1], x = q ∨ x = q1 := fun x hx => by simpa using hx
  refine hQ q q1 σ24 ⟨by rw [D24]; simp, ?_, fun b hb => ⟨by rw [D24]; simp [hb], ?_, hn b⟩, fun b hb k => ?_⟩ ?_ ?_ (fun x hx k => ?_) (fun x hx k => ?_) (fun k => ?_) (fun k => ?_) (by rw [e24, e14, e1]) (by rw [e24, e14, e1]) (fun b k => ?_)
  · rw [D24]
    simp only [List.append_assoc, List.cons_append, List.nil_append]
    refine List.nodup_append.mpr ⟨hnd, ?_, fun b hb c hc w => ?_⟩
    · simp only [List.nodup_cons, List.mem_cons, List.mem_nil_iff, or_false, not_or, List.not_mem_nil, not_false_eq_true, List.nodup_nil, and_true]; exact q01.symm
    · have := ne b hb; subst w
      rcases mE b hc with v | v
      · exact this.1 v
      · exact this.2 v
  · have := ne b hb; rw [hk, if_neg this.2, if_neg this.1]
  · have := ne b hb
    exact ⟨by rw [hI, if_neg this.2, if_neg this.1], by rw [hP, if_neg (fun v => this.1 v.1), if_neg this.2, if_neg this.1], by rw [hJ, if_neg this.2, if_neg this.1]⟩
  · rw [hk, if_neg (fun w => q01 w.symm), if_pos rfl]
  · rw [hk, if_pos rfl]
  · rw [hI]; rcases mE x hx with w | w <;> subst w <;> simp
  · rw [hJ]; rcases mE x hx with w | w <;> subst w <;> simp
  · rw [hP]
    by_cases v4 : k = 0
    · subst v4; simp
    · rw [if_neg (fun w => v4 w.2), if_neg (fun w => q01 w.symm), if_pos rfl, if_neg v4]
  · rw [hP, if_neg (fun v => q01 v.1), if_pos rfl]
  · rw [hI]; repeat' split
    all_goals first | exact hR b k | (unfold rng; omega)
end WPN
theorem Gw.fx {σ σ0 σ' : Sg} {gr : Nat → Nat} {E L : List Nat} {a j l : Nat} {v : Option Nat} (g : Gw E σ σ0) (e0 : σ' = pP σ0 a j v) (ka : kO σ a l) (hl : 100 < l ∧ l * 64 ∈ L) : Fx L gr σ σ' := by
  subst e0
  refine ⟨fun b hb => g.2.2.1 b hb, fun b hb k hk => ?_⟩
  have s := g.2.2.2 b hb k
  refine ⟨s.1, ?_, s.2.2⟩
  rw [gP_pP, up2_n _ _ (fun z => hk (by rw [z.1, fcdA ka hl.1]; exact hl.2))]; exact s.2.1
theorem nu_T2 {nu : Nat → Nat} {T : Nat} (h : T = 2 ∨ T = 3) : NU nu (up1 nu (if T = 1 then 0 else T + 6) (nu (if T = 1 then 0 else T + 6) + 1)) := by
  refine ⟨fun k q => up1_n _ _ (fun w => q ?_), ?_⟩
  · rw [w]; rcases h with e | e <;> subst e <;> decide
  · rw [up1_n _ _ (by rcases h with e | e <;> subst e <;> decide)]; exact Nat.le_refl _
theorem nu_T1 {nu : Nat → Nat} {T : Nat} (h : T = 1) : NW nu (up1 nu (if T = 1 then 0 else T + 6) (nu (if T = 1 then 0 else T + 6) + 1)) := by
  subst h
  refine ⟨fun k q => up1_n _ _ (fun w => q (by rw [w]; decide)), ?_, ?_, ?_⟩
  · show nu 0 ≤ up1 nu 0 (nu 0 + 1) 0; rw [up1_s]; omega
  · show nu 1 ≤ up1 nu 0 (nu 0 + 1) 1; rw [up1_n _ _ (by decide)]; exact Nat.le_refl _
  · show nu 2 ≤ up1 nu 0 (nu 0 + 1) 2; rw [up1_n _ _ (by decide)]; exact Nat.le_refl _
theorem nu_C1 {nu : Nat → Nat} : NW nu (up1 (up1 nu 1 (nu 1 + 1)) 10 (nu 10 + 1)) := by
  refine ⟨fun k q => ?_, ?_, ?_, ?_⟩
  · rw [up1_n _ _ (fun w => q (by rw [w]; decide)), up1_n _ _ (fun w => q (by rw [w]; decide))]
  · rw [up1_n _ _ (by decide), up1_n _ _ (by decide)]; exact Nat.le_refl _
  · rw [up1_n _ _ (by decide), up1_s]; omega
  · rw [up1_n _ _ (by decide), up1_n _ _ (by decide)]; exact Nat.le_refl _

/-! what only constructors do -/
section CNW
variable {p : Program} {l : Launch} {e : Env} {R : Room} {s : State} {m : MethodId} {args : Array Value} {below : List Frame} {meth : Method} {c : Code} {cc : ByteArray} {nL : Nat} {own : String} {D : va_G} {cA : Nat → ClassId} {tys : List (ClassId × FieldType)} {A : Nat → Prop} {n0 s0 : Nat} {Q : State → Prop} {σ : Sg} {pc : Nat} {lo : List (Nat × Value)} {ls : Array Slot} {H : Heap} {locs : List Loc} {rest : List Value} {Qn : Sg → Option Value → Prop} {Qx : Sg → String → Prop} {y : MethodName} {bytes : ByteArray} {maxL fr lw index : Nat} {ret : Option FieldType}
/-- new byte[n] -/
theorem c_newB (B : Cx p s m args c cc nL own D cA tys A) (hT : TyC cA tys) (hH : Hd D cA A s σ H locs) (hc : CB n0 s0 σ) (hR : Rm R n0 s0) (harr : Cond.arrayClass .byte ∈ WAL) {n : Int} (hn : 0 ≤ n ∧ n < 60000000) (hz : gc σ + 1 ≤ BC ∧ gs σ + n.toNat ≤ BS) (hd : decode cc pc = .ok (.newarray .byte, 2))
    (h : ∀ (q : Nat) (H1 : Heap), q ∉ gD σ → Hd D cA A s (newA σ q 102 n.toNat) H1 locs → CB n0 s0 (newA σ q 102 n.toNat) → W p l e R s m args below meth c H1 locs (gc (newA σ q 102 n.toNat) - n0) (gs (newA σ q 102 n.toNat) - s0) Q (F0 m (pc + 2) ls (.ref q :: rest))) : W p l e R s m args below meth c H locs (gc σ - n0) (gs σ - s0) Q (F0 m pc ls (.int (i32 n) :: rest)) := by
  obtain ⟨h1, h2, h3, h4⟩ := hc
  have hrn : rng n := ⟨by omega, by omega⟩
  refine va_newa (a0 := (n.toNat, .inl (fun _ => 0))) (N' := n.toNat) B.1 B.2.1 (atype := .byte) (ty := .byte) (B.2.2.2.1 _ harr) rfl B.2.2.2.2.1 hH.1 hH.2.1 hH.2.2 B.2.2.2.2.2.2.1 (fun cA9 => rfl) (fun q => by have := (z_lt hrn).mp q; omega) (i32_clamp hn.1 (by omega)) (by show n.toNat * _ ≤ _; simp only [componentBytes]; omega) (by rw [hR.1]; omega) (by rw [hR.2]; omega) hd (fun q cA9 H1 hK9 hP hD hS => ?_)
  have ecA : cA9 = cA 102 := by
    have k1 : va_RA s (cA 102) .byte := (B.2.2.2.2.1.2 2 _ hT.1.2.2.1).2
    have k2 : va_RA s cA9 .byte := (hK9.2 tys.length (cA9, .byte) (by rw [List.getElem?_append_right (Nat.le_refl _), Nat.sub_self]; rfl)).2
    exact Option.some.inj (k2.symm.trans k1)
  subst ecA
  have hq : q ∉ gD σ := by
    intro hm
    obtain ⟨k, hk⟩ := wd_get (cA := cA) hm
    have e1 : (wd cA σ ++ [(q, (.inl (cA 102, n.toNat, .inl (fun _ => 0)) : va_E))])[k]? = some (q, ent cA σ q) := by
      rw [List.getElem?_append_left (List.getElem?_eq_some_iff.mp hk).1]; exact hk
    have e2 : (wd cA σ ++ [(q, (.inl (cA 102, n.toNat, .inl (fun _ => 0)) : va_E))])[(wd cA σ).length]? = some (q, (.inl (cA 102, n.toNat, .inl (fun _ => 0)) : va_E)) := by
      rw [List.getElem?_append_right (Nat.le_refl _), Nat.sub_self]; rfl
    have := hD.1 _ _ _ _ e1 e2 rfl
    have h1 := (List.getElem?_eq_some_iff.mp hk).1
    omega
  have hs : wd cA σ ++ [(q, (.inl (cA 102, n.toNat, .inl (fun _ => 0)) : va_E))] = wd cA (newA σ q 102 n.toNat) := by
    refine Eq.trans (va_pl_push hq) ?_
    show va_pl (gD σ ++ [q]) _ = va_pl (gD σ ++ [q]) (ent cA (newA σ q 102 n.toNat))
    refine va_pl_congr (fun b => ?_)
    by_cases hb : b = q
    · subst hb
      rw [va_up_self]
      have k0 : gk (newA σ b 102 n.toNat) b = 102 := va_up_self _ _ _
      have k1 : gn (newA σ b 102 n.toNat) b = n.toNat := va_up_self _ _ _
      rw [ent_int (σ := newA σ b 102 n.toNat) (by omega) (by omega) (by omega) k0, k1]
      congr 4
      funext j
      show _ = i32 (if b = b then (0 : Int) else gI σ b j)
      rw [if_pos rfl]; rfl
    · rw [va_up_ne _ _ hb]
      have k1 : gk (newA σ q 102 n.toNat) b = gk σ b := va_up_ne _ _ hb
      have k2 : gn (newA σ q 102 n.toNat) b = gn σ b := va_up_ne _ _ hb
      have k3 : gI (newA σ q 102 n.toNat) b = gI σ b := by funext j; show (if b = q then (0 : Int) else gI σ b j) = _; rw [if_neg hb]
      have k4 : gJ (newA σ q 102 n.toNat) b = gJ σ b := by funext j; show (if b = q then (0 : Int64) else gJ σ b j) = _; rw [if_neg hb]
      have k5 : gP (newA σ q 102 n.toNat) b = gP σ b := by funext j; show (if b = q then none else gP σ b j) = _; rw [if_neg hb]
      have k6 : ∀ r, flds (newA σ q 102 n.toNat) b r = flds σ b r := fun r => List.map_congr_left (fun j _ => by unfold fval; rw [k3, k4, k5])
      unfold ent
      rw [k1, k2, k3, k4, k5, k6]
  rw [hs] at hP hD
  have h9 := h q H1 hq ⟨hP, hD, hS⟩ ⟨by show _ ≤ gc σ + 1; omega, by show _ ≤ gs σ + n.toNat; omega, hz.1, hz.2⟩
  have e1 : gc (newA σ q 102 n.toNat) - n0 = gc σ - n0 + 1 := by show gc σ + 1 - n0 = _; omega
  have e2 : gs (newA σ q 102 n.toNat) - s0 = gs σ - s0 + n.toNat := by show gs σ + n.toNat - s0 = _; omega
  rw [e1, e2] at h9
  exact h9
/-- new boolean[n] -/
theorem c_newZ (B : Cx p s m args c cc nL own D cA tys A) (hT : TyC cA tys) (hH : Hd D cA A s σ H locs) (hc : CB n0 s0 σ) (hR : Rm R n0 s0) (harr : Cond.arrayClass .boolean ∈ WAL) {n : Int} (hn : 0 ≤ n ∧ n < 60000000) (hz : gc σ + 1 ≤ BC ∧ gs σ + n.toNat ≤ BS) (hd : decode cc pc = .ok (.newarray .boolean, 2))
    (h : ∀ (q : Nat) (H1 : Heap), q ∉ gD σ → Hd D cA A s (newA σ q 103 n.toNat) H1 locs → CB n0 s0 (newA σ q 103 n.toNat) → W p l e R s m args below meth c H1 locs (gc (newA σ q 103 n.toNat) - n0) (gs (newA σ q 103 n.toNat) - s0) Q (F0 m (pc + 2) ls (.ref q :: rest))) : W p l e R s m args below meth c H locs (gc σ - n0) (gs σ - s0) Q (F0 m pc ls (.int (i32 n) :: rest)) := by
  obtain ⟨h1, h2, h3, h4⟩ := hc
  have hrn : rng n := ⟨by omega, by omega⟩
  refine va_newa (a0 := (n.toNat, .inl (fun _ => 0))) (N' := n.toNat) B.1 B.2.1 (atype := .boolean) (ty := .boolean) (B.2.2.2.1 _ harr) rfl B.2.2.2.2.1 hH.1 hH.2.1 hH.2.2 B.2.2.2.2.2.2.1 (fun cA9 => rfl) (fun q => by have := (z_lt hrn).mp q; omega) (i32_clamp hn.1 (by omega)) (by show n.toNat * _ ≤ _; simp only [componentBytes]; omega) (by rw [hR.1]; omega) (by rw [hR.2]; omega) hd (fun q cA9 H1 hK9 hP hD hS => ?_)
  have ecA : cA9 = cA 103 := by
    have k1 : va_RA s (cA 103) .boolean := (B.2.2.2.2.1.2 3 _ hT.1.2.2.2).2
    have k2 : va_RA s cA9 .boolean := (hK9.2 tys.length (cA9, .boolean) (by rw [List.getElem?_append_right (Nat.le_refl _), Nat.sub_self]; rfl)).2
    exact Option.some.inj (k2.symm.trans k1)
  subst ecA
  have hq : q ∉ gD σ := by
    intro hm
    obtain ⟨k, hk⟩ := wd_get (cA := cA) hm
    have e1 : (wd cA σ ++ [(q, (.inl (cA 103, n.toNat, .inl (fun _ => 0)) : va_E))])[k]? = some (q, ent cA σ q) := by
      rw [List.getElem?_append_left (List.getElem?_eq_some_iff.mp hk).1]; exact hk
    have e2 : (wd cA σ ++ [(q, (.inl (cA 103, n.toNat, .inl (fun _ => 0)) : va_E))])[(wd cA σ).length]? = some (q, (.inl (cA 103, n.toNat, .inl (fun _ => 0)) : va_E)) := by
      rw [List.getElem?_append_right (Nat.le_refl _), Nat.sub_self]; rfl
    have := hD.1 _ _ _ _ e1 e2 rfl
    have h1 := (List.getElem?_eq_some_iff.mp hk).1
    omega
  have hs : wd cA σ ++ [(q, (.inl (cA 103, n.toNat, .inl (fun _ => 0)) : va_E))] = wd cA (newA σ q 103 n.toNat) := by
    refine Eq.trans (va_pl_push hq) ?_
    show va_pl (gD σ ++ [q]) _ = va_pl (gD σ ++ [q]) (ent cA (newA σ q 103 n.toNat))
    refine va_pl_congr (fun b => ?_)
    by_cases hb : b = q
    · subst hb
      rw [va_up_self]
      have k0 : gk (newA σ b 103 n.toNat) b = 103 := va_up_self _ _ _
      have k1 : gn (newA σ b 103 n.toNat) b = n.toNat := va_up_self _ _ _
      rw [ent_int (σ := newA σ b 103 n.toNat) (by omega) (by omega) (by omega) k0, k1]
      congr 4
      funext j
      show _ = i32 (if b = b then (0 : Int) else gI σ b j)
      rw [if_pos rfl]; rfl
    · rw [va_up_ne _ _ hb]
      have k1 : gk (newA σ q 103 n.toNat) b = gk σ b := va_up_ne _ _ hb
      have k2 : gn (newA σ q 103 n.toNat) b = gn σ b := va_up_ne _ _ hb
      have k3 : gI (newA σ q 103 n.toNat) b = gI σ b := by funext j; show (if b = q then (0 : Int) else gI σ b j) = _; rw [if_neg hb]
      have k4 : gJ (newA σ q 103 n.toNat) b = gJ σ b := by funext j; show (if b = q then (0 : Int64) else gJ σ b j) = _; rw [if_neg hb]
      have k5 : gP (newA σ q 103 n.toNat) b = gP σ b := by funext j; show (if b = q then none else gP σ b j) = _; rw [if_neg hb]
      have k6 : ∀ r, flds (newA σ q 103 n.toNat) b r = flds σ b r := fun r => List.map_congr_left (fun j _ => by unfold fval; rw [k3, k4, k5])
      unfold ent
      rw [k1, k2, k3, k4, k5, k6]
  rw [hs] at hP hD
  have h9 := h q H1 hq ⟨hP, hD, hS⟩ ⟨by show _ ≤ gc σ + 1; omega, by show _ ≤ gs σ + n.toNat; omega, hz.1, hz.2⟩
  have e1 : gc (newA σ q 103 n.toNat) - n0 = gc σ - n0 + 1 := by show gc σ + 1 - n0 = _; omega
  have e2 : gs (newA σ q 103 n.toNat) - s0 = gs σ - s0 + n.toNat := by show gs σ + n.toNat - s0 = _; omega
  rw [e1, e2] at h9
  exact h9
theorem wdP : va_P D vwCl (wd cA σ) H ↔ ∀ a ∈ gD σ, va_at D vwCl (a, ent cA σ a) H := by
  constructor
  · intro h a ha
    obtain ⟨k, hk⟩ := wd_get (cA := cA) ha
    exact h k _ hk
  · intro h k q hk
    have hk : ((gD σ).map (fun a => (a, ent cA σ a)))[k]? = some q := hk
    rw [List.getElem?_map] at hk
    cases e : (gD σ)[k]? with
    | none => rw [e] at hk; cases hk
    | some a =>
      rw [e] at hk
      have hq : (a, ent cA σ a) = q := Option.some.inj hk
      rw [← hq]
      exact h a (List.mem_of_getElem? e)
theorem wdD : va_D A (wd cA σ) ↔ (gD σ).Nodup ∧ ∀ a ∈ gD σ, A a := by
  have at9 : ∀ (k a : Nat), (gD σ)[k]? = some a → (wd cA σ)[k]? = some (a, ent cA σ a) := fun k a e => by
    show ((gD σ).map (fun a => (a, ent cA σ a)))[k]? = _
    rw [List.getElem?_map, e]; rfl
  constructor
  · intro h
    refine ⟨List.pairwise_iff_getElem.mpr (fun i j hi hj hij e => ?_), fun a ha => ?_⟩
    · have := h.1 i j _ _ (at9 i _ (List.getElem?_eq_getElem hi)) (at9 j _ (List.getElem?_eq_getElem hj)) e
      omega
    · obtain ⟨k, hk⟩ := wd_get (cA := cA) ha
      exact h.2 k _ hk
  · intro h
    have back : ∀ (k : Nat) (q : Nat × va_E), (wd cA σ)[k]? = some q → (gD σ)[k]? = some q.1 := fun k q hk => by
      have hk : ((gD σ).map (fun a => (a, ent cA σ a)))[k]? = some q := hk
      rw [List.getElem?_map] at hk
      cases e : (gD σ)[k]? with
      | none => rw [e] at hk; cases hk
      | some a => rw [e] at hk; rw [← Option.some.inj hk]
    refine ⟨fun i j p q hp hq e => ?_, fun k q hk => h.2 _ (List.mem_of_getElem? (back k q hk))⟩
    have h1 := back i p hp
    have h2 := back j q hq
    rw [← e] at h2
    obtain ⟨li, gi⟩ := List.getElem?_eq_some_iff.mp h1
    obtain ⟨lj, gj⟩ := List.getElem?_eq_some_iff.mp h2
    exact (List.getElem_inj h.1).mp (gi.trans gj.symm)
/-- new C[n] -/
theorem c_newR (B : Cx p s m args c cc nL own D cA tys A) (hH : Hd D cA A s σ H locs) (hc : CB n0 s0 σ) (hR : Rm R n0 s0) {C : String} {k9 t0 index : Nat} (h9 : 110 ≤ k9) (ht : tys[t0]? = some (cA k9, .object C)) (hao : C ∈ aoL) (hw : Cond.classLink own index C ∈ WAL) {n : Int} (hn : 0 ≤ n ∧ n < 60000000) (hz : gc σ + 1 ≤ BC ∧ gs σ + n.toNat ≤ BS) (hd : decode cc pc = .ok (.anewarray index, 3))
    (h : ∀ (q : Nat) (H1 : Heap), q ∉ gD σ → Hd D cA A s (newA σ q k9 n.toNat) H1 locs → CB n0 s0 (newA σ q k9 n.toNat) → W p l e R s m args below meth c H1 locs (gc (newA σ q k9 n.toNat) - n0) (gs (newA σ q k9 n.toNat) - s0) Q (F0 m (pc + 3) ls (.ref q :: rest))) : W p l e R s m args below meth c H locs (gc σ - n0) (gs σ - s0) Q (F0 m pc ls (.int (i32 n) :: rest)) := by
  obtain ⟨h1, h2, h3, h4⟩ := hc
  have hrn : rng n := ⟨by omega, by omega⟩
  refine va_newq (n := i32 n) (N' := n.toNat) B.1 B.2.1 B.2.2.1 (B.2.2.2.1 _ hw) (B.2.2.2.2.2.2.2.1.2.2.2.2.1 C hao) B.2.2.2.2.1 hH.1 hH.2.1 hH.2.2 B.2.2.2.2.2.2.1 (fun q => by have := (z_lt hrn).mp q; omega) (i32_clamp hn.1 (by omega)) (by omega) (by rw [hR.1]; omega) (by rw [hR.2]; omega) hd (fun q cA9 H1 hK9 hP hD hS => ?_)
  have ecA : cA9 = cA k9 := by
    obtain ⟨_, _, _, _, _, k1⟩ := (B.2.2.2.2.1.2 t0 _ ht).2
    obtain ⟨_, _, _, _, _, k2⟩ := (hK9.2 tys.length (cA9, .object C) (by rw [List.getElem?_append_right (Nat.le_refl _), Nat.sub_self]; rfl)).2
    exact Option.some.inj (k2.symm.trans k1)
  subst ecA
  have hq : q ∉ gD σ := by
    intro hm
    obtain ⟨k, hk⟩ := wd_get (cA := cA) hm
    have e1 : (wd cA σ ++ [(q, (.inl (cA k9, n.toNat, .inr (.inr (.inr (.inr (fun _ => none))))) : va_E))])[k]? = some (q, ent cA σ q) := by
      rw [List.getElem?_append_left (List.getElem?_eq_some_iff.mp hk).1]; exact hk
    have e2 : (wd cA σ ++ [(q, (.inl (cA k9, n.toNat, .inr (.inr (.inr (.inr (fun _ => none))))) : va_E))])[(wd cA σ).length]? = some (q, (.inl (cA k9, n.toNat, .inr (.inr (.inr (.inr (fun _ => none))))) : va_E)) := by
      rw [List.getElem?_append_right (Nat.le_refl _), Nat.sub_self]; rfl
    have := hD.1 _ _ _ _ e1 e2 rfl
    have h1 := (List.getElem?_eq_some_iff.mp hk).1
    omega
  have hs : wd cA σ ++ [(q, (.inl (cA k9, n.toNat, .inr (.inr (.inr (.inr (fun _ => none))))) : va_E))] = wd cA (newA σ q k9 n.toNat) := by
    refine Eq.trans (va_pl_push hq) ?_
    show va_pl (gD σ ++ [q]) _ = va_pl (gD σ ++ [q]) (ent cA (newA σ q k9 n.toNat))
    refine va_pl_congr (fun b => ?_)
    by_cases hb : b = q
    · subst hb
      rw [va_up_self]
      have k0 : gk (newA σ b k9 n.toNat) b = k9 := va_up_self _ _ _
      have k1 : gn (newA σ b k9 n.toNat) b = n.toNat := va_up_self _ _ _
      rw [ent_ref (σ := newA σ b k9 n.toNat) h9 k0, k1]
      congr 7
      funext j
      show _ = (if b = b then none else gP σ b j)
      rw [if_pos rfl]
    · rw [va_up_ne _ _ hb]
      have k1 : gk (newA σ q k9 n.toNat) b = gk σ b := va_up_ne _ _ hb
      have k2 : gn (newA σ q k9 n.toNat) b = gn σ b := va_up_ne _ _ hb
      have k3 : gI (newA σ q k9 n.toNat) b = gI σ b := by funext j; show (if b = q then (0 : Int) else gI σ b j) = _; rw [if_neg hb]
      have k4 : gJ (newA σ q k9 n.toNat) b = gJ σ b := by funext j; show (if b = q then (0 : Int64) else gJ σ b j) = _; rw [if_neg hb]
      have k5 : gP (newA σ q k9 n.toNat) b = gP σ b := by funext j; show (if b = q then none else gP σ b j) = _; rw [if_neg hb]
      have k6 : ∀ r, flds (newA σ q k9 n.toNat) b r = flds σ b r := fun r => List.map_congr_left (fun j _ => by unfold fval; rw [k3, k4, k5])
      unfold ent
      rw [k1, k2, k3, k4, k5, k6]
  rw [hs] at hP hD
  have h9 := h q H1 hq ⟨hP, hD, hS⟩ ⟨by show _ ≤ gc σ + 1; omega, by show _ ≤ gs σ + n.toNat; omega, hz.1, hz.2⟩
  have e1 : gc (newA σ q k9 n.toNat) - n0 = gc σ - n0 + 1 := by show gc σ + 1 - n0 = _; omega
  have e2 : gs (newA σ q k9 n.toNat) - s0 = gs σ - s0 + n.toNat := by show gs σ + n.toNat - s0 = _; omega
  rw [e1, e2] at h9
  exact h9
/-- new long[4][320] -/
theorem c_mna (B : Cx p s m args c cc nL own D cA tys A) (hT : TyC cA tys) (hH : Hd D cA A s σ H locs) (hc : CB n0 s0 σ) (hR : Rm R n0 s0) {index : Nat} (hw : Cond.classLink own index "[[J" ∈ WAL) (harr : Cond.arrayClass .long ∈ WAL) (hz : gc σ + 5 ≤ BC ∧ gs σ + 1284 ≤ BS) (hd : decode cc pc = .ok (.multianewarray index 2, 4))
    (h : ∀ (q : Nat) (f : Nat → Nat) (H1 : Heap), (q ∉ gD σ ∧ ∀ i, i < 4 → f i ∉ gD σ ∧ f i ≠ q ∧ ∀ j, j < i → f j ≠ f i) → Hd D cA A s (mnaJ σ q f 4 320) H1 locs → CB n0 s0 (mnaJ σ q f 4 320) → W p l e R s m args below meth c H1 locs (gc (mnaJ σ q f 4 320) - n0) (gs (mnaJ σ q f 4 320) - s0) Q (F0 m (pc + 4) ls (.ref q :: rest))) : W p l e R s m args below meth c H locs (gc σ - n0) (gs σ - s0) Q (F0 m pc ls (.int (i32 320) :: .int (i32 4) :: rest)) := by
  obtain ⟨h1, h2, h3, h4⟩ := hc
  have hcy : s.vm.findClass (FieldType.array FieldType.long).toString = some (cA 101) := (B.2.2.2.2.1.2 1 _ hT.1.2.1).2
  refine va_mna (ty := .long) (cy := cA 101) (X := []) (L := gD σ) (f := ent cA σ) (n := i32 4) (k := i32 320) (N' := 4) (K' := 320) (z := (320, .inr (.inl (fun _ => 0)))) B.1 B.2.1 B.2.2.1 (B.2.2.2.1 _ hw) B.2.2.2.2.2.2.2.1.2.2.2.2.2.2 (B.2.2.2.1 _ harr) hcy B.2.2.2.2.1 hH.1 hH.2.1 hH.2.2 B.2.2.2.2.2.2.1 (by decide) (by decide) (by decide) (by decide) (Nat.le_of_ble_eq_true rfl) (Nat.le_of_ble_eq_true rfl) (Nat.le_of_ble_eq_true rfl) rfl rfl (by rw [hR.1]; omega) (by rw [hR.2]; omega) (fun c9 => arrV_new c9 320 (.long 0)) hd (fun q r cA9 H1 hinj hnot hK9 hP hD hS => ?_)
  have ecA : cA9 = cA 200 := by
    have k1 : va_RA s (cA 200) (.array .long) := (B.2.2.2.2.1.2 8 _ hT.2.2.2.2.2).2
    have k2 : va_RA s cA9 (.array .long) := (hK9.2 tys.length (cA9, .array .long) (by rw [List.getElem?_append_right (Nat.le_refl _), Nat.sub_self]; rfl)).2
    exact Option.some.inj (k2.symm.trans k1)
  subst ecA
  obtain ⟨rs, ers⟩ : ∃ z, z = (List.range 4).map r := ⟨_, rfl⟩
  rw [← ers] at hP hD
  have mrs : ∀ a, a ∈ rs ↔ ∃ i, i < 4 ∧ r i = a := fun a => by rw [ers, List.mem_map]; simp only [List.mem_range]
  obtain ⟨eq9, heq9⟩ : ∃ z : va_E, z = .inl (cA 200, 4, .inr (.inr (.inr (.inr (fun i => if i < 4 then some (r i) else none))))) := ⟨_, rfl⟩
  rw [← heq9] at hP hD
  obtain ⟨ws9, hws⟩ : ∃ z : va_W, z = ([] ++ [(q, eq9)]) ++ va_pl (gD σ ++ rs) (vr_up (ent cA σ) rs (.inl (cA 101, 320, .inr (.inl (fun _ => 0))))) := ⟨_, rfl⟩
  have hP : va_P D vwCl ws9 H1 := by rw [hws]; exact hP
  have hD : va_D A ws9 := by rw [hws]; exact hD
  have pin : ∀ x ∈ ws9, va_at D vwCl x H1 := fun x hx => by
    obtain ⟨k, hk⟩ := List.getElem?_of_mem hx
    exact hP k x hk
  have ain : ∀ x ∈ ws9, A x.1 := fun x hx => by
    obtain ⟨k, hk⟩ := List.getElem?_of_mem hx
    exact hD.2 k x hk
  have q0 : ws9[0]? = some (q, eq9) := by rw [hws]; rfl
  have qn : ∀ a, a ∈ gD σ ++ rs → a ≠ q := fun a ha e => by
    obtain ⟨k, hk⟩ := List.getElem?_of_mem (List.mem_map.mpr ⟨a, ha, rfl⟩ : (a, vr_up (ent cA σ) rs (.inl (cA 101, 320, .inr (.inl (fun _ => 0)))) a) ∈ va_pl (gD σ ++ rs) (vr_up (ent cA σ) rs (.inl (cA 101, 320, .inr (.inl (fun _ => 0))))))
    have hk1 : ws9[k + 1]? = some (a, vr_up (ent cA σ) rs (.inl (cA 101, 320, .inr (.inl (fun _ => 0)))) a) := by rw [hws]; exact hk
    have := hD.1 0 (k + 1) _ _ q0 hk1 e.symm
    omega
  have pl9 : ∀ a, a ∈ gD σ ++ rs → (a, vr_up (ent cA σ) rs (.inl (cA 101, 320, .inr (.inl (fun _ => 0)))) a) ∈ ws9 := fun a ha => by
    rw [hws]; exact List.mem_append_right _ (List.mem_map.mpr ⟨a, ha, rfl⟩)
  have hq : q ∉ gD σ := fun w => qn q (List.mem_append_left _ w) rfl
  have hf : ∀ i, i < 4 → r i ∉ gD σ ∧ r i ≠ q ∧ ∀ j, j < i → r j ≠ r i := fun i hi => ⟨hnot i hi, qn _ (List.mem_append_right _ ((mrs _).mpr ⟨i, hi, rfl⟩)), fun j hj e => by have := hinj j i (by omega) hi e; omega⟩
  have eD : gD (mnaJ σ q r 4 320) = gD σ ++ (q :: rs) := by rw [ers]; rfl
  have nrs : ∀ a, a ∈ gD σ → a ∉ rs := fun a ha w => by obtain ⟨i, hi, e⟩ := (mrs a).mp w; exact hnot i hi (e ▸ ha)
  have eK : ∀ b, gk (mnaJ σ q r 4 320) b = if b = q then 200 else if b ∈ rs then 101 else gk σ b := fun b => by rw [ers]; rfl
  have eN : ∀ b, gn (mnaJ σ q r 4 320) b = if b = q then 4 else if b ∈ rs then 320 else gn σ b := fun b => by rw [ers]; rfl
  have eI : ∀ b j, gI (mnaJ σ q r 4 320) b j = if b = q ∨ b ∈ rs then 0 else gI σ b j := fun b j => by rw [ers]; rfl
  have eJ : ∀ b j, gJ (mnaJ σ q r 4 320) b j = if b = q ∨ b ∈ rs then 0 else gJ σ b j := fun b j => by rw [ers]; rfl
  have eP : ∀ b j, gP (mnaJ σ q r 4 320) b j = if b = q then (if j < 4 then some (r j) else none) else if b ∈ rs then none else gP σ b j := fun b j => by rw [ers]; rfl
  have hPn : va_P D vwCl (wd cA (mnaJ σ q r 4 320)) H1 := by
    refine wdP.mpr (fun a ha => ?_)
    rw [eD] at ha
    rcases List.mem_append.mp ha with ha | ha
    · have n1 : a ≠ q := fun w => hq (w ▸ ha)
      have n2 := nrs a ha
      have k1 : gk (mnaJ σ q r 4 320) a = gk σ a := by rw [eK, if_neg n1, if_neg n2]
      have k2 : gn (mnaJ σ q r 4 320) a = gn σ a := by rw [eN, if_neg n1, if_neg n2]
      have k3 : gI (mnaJ σ q r 4 320) a = gI σ a := by funext j; rw [eI, if_neg (fun w => w.elim n1 n2)]
      have k4 : gJ (mnaJ σ q r 4 320) a = gJ σ a := by funext j; rw [eJ, if_neg (fun w => w.elim n1 n2)]
      have k5 : gP (mnaJ σ q r 4 320) a = gP σ a := by funext j; rw [eP, if_neg n1, if_neg n2]
      have k6 : ∀ r9, flds (mnaJ σ q r 4 320) a r9 = flds σ a r9 := fun r9 => List.map_congr_left (fun j _ => by unfold fval; rw [k3, k4, k5])
      have ee : ent cA (mnaJ σ q r 4 320) a = ent cA σ a := by unfold ent; rw [k1, k2, k3, k4, k5, k6]
      have := pin _ (pl9 a (List.mem_append_left _ ha))
      rw [vr_up_ne n2] at this
      rw [ee]; exact this
    · rcases List.mem_cons.mp ha with ha | ha
      · subst ha
        have ee : ent cA (mnaJ σ a r 4 320) a = eq9 := by
          rw [ent_ref (σ := mnaJ σ a r 4 320) (k9 := 200) (by decide) (by rw [eK, if_pos rfl]), heq9, eN, if_pos rfl]
          congr 7
          funext j
          rw [eP, if_pos rfl]
        rw [ee]
        exact pin _ (List.mem_of_getElem? q0)
      · have n1 : a ≠ q := qn a (List.mem_append_right _ ha)
        have ee : ent cA (mnaJ σ q r 4 320) a = .inl (cA 101, 320, .inr (.inl (fun _ => 0))) := by
          rw [ent_long (σ := mnaJ σ q r 4 320) (by rw [eK, if_neg n1, if_pos ha]), eN, if_neg n1, if_pos ha]
          congr 5
          funext j
          rw [eJ, if_pos (Or.inr ha)]
        have := pin _ (pl9 a (List.mem_append_right _ ha))
        rw [vr_up_in ha] at this
        rw [ee]; exact this
  have hDn : va_D A (wd cA (mnaJ σ q r 4 320)) := by
    refine wdD.mpr ⟨?_, fun a ha => ?_⟩
    · rw [eD, List.nodup_append]
      refine ⟨(wdD.mp hH.2.1).1, List.nodup_cons.mpr ⟨fun w => qn q (List.mem_append_right _ w) rfl, ?_⟩, fun x hx y hy e => ?_⟩
      · rw [ers]
        refine List.pairwise_iff_getElem.mpr (fun i j hi hj hij e => ?_)
        rw [List.getElem_map, List.getElem_map, List.getElem_range, List.getElem_range] at e
        have li : i < 4 := by simpa using hi
        have lj : j < 4 := by simpa using hj
        have := hinj i j li lj e
        omega
      · rcases List.mem_cons.mp hy with w | w
        · exact hq (w ▸ e ▸ hx)
        · exact nrs x hx (e ▸ w)
    · rw [eD] at ha
      rcases List.mem_append.mp ha with ha | ha
      · exact ain _ (pl9 a (List.mem_append_left _ ha))
      · rcases List.mem_cons.mp ha with ha | ha
        · subst ha; exact ain _ (List.mem_of_getElem? q0)
        · exact ain _ (pl9 a (List.mem_append_right _ ha))
  have h9 := h q r H1 ⟨hq, hf⟩ ⟨hPn, hDn, hS⟩ ⟨by show _ ≤ gc σ + (1 + 4); omega, by show _ ≤ gs σ + (4 + 4 * 320); omega, by show gc σ + (1 + 4) ≤ BC; omega, by show gs σ + (4 + 4 * 320) ≤ BS; omega⟩
  have e1 : gc (mnaJ σ q r 4 320) - n0 = gc σ - n0 + 1 + 4 := by show gc σ + (1 + 4) - n0 = _; omega
  have e2 : gs (mnaJ σ q r 4 320) - s0 = gs σ - s0 + 4 + 4 * 320 := by show gs σ + (4 + 4 * 320) - s0 = _; omega
  rw [e1, e2] at h9
  exact h9
theorem TY.mna {r : Nat → Nat} {q : Nat} (h : TY σ) (hq : q ∉ gD σ ∧ ∀ i, i < 4 → r i ∉ gD σ ∧ r i ≠ q ∧ ∀ j, j < i → r j ≠ r i) : TY (mnaJ σ q r 4 320) := by
  have mrs : ∀ a, a ∈ (List.range 4).map r ↔ ∃ i, i < 4 ∧ r i = a := fun a => by rw [List.mem_map]; simp only [List.mem_range]
  have nrs : ∀ a, a ∈ gD σ → a ∉ (List.range 4).map r := fun a ha w => by obtain ⟨i, hi, e⟩ := (mrs a).mp w; exact (hq.2 i hi).1 (e ▸ ha)
  have eK : ∀ b, gk (mnaJ σ q r 4 320) b = if b = q then 200 else if b ∈ (List.range 4).map r then 101 else gk σ b := fun b => rfl
  have eP : ∀ b j, gP (mnaJ σ q r 4 320) b j = if b = q then (if j < 4 then some (r j) else none) else if b ∈ (List.range 4).map r then none else gP σ b j := fun b j => rfl
  have eN : ∀ b, gn (mnaJ σ q r 4 320) b = if b = q then 4 else if b ∈ (List.range 4).map r then 320 else gn σ b := fun b => rfl
  have eD : gD (mnaJ σ q r 4 320) = gD σ ++ (q :: (List.range 4).map r) := rfl
  refine ⟨fun a ha k b e => ?_, fun a => ?_⟩
  · rw [eP] at e
    rw [eK]
    by_cases h1 : a = q
    · rw [if_pos h1] at e ⊢
      by_cases hk : k < 4
      · rw [if_pos hk] at e
        have eb : r k = b := Option.some.inj e
        have mb : b ∈ (List.range 4).map r := (mrs b).mpr ⟨k, hk, eb⟩
        refine ⟨by rw [eD]; exact List.mem_append_right _ (List.mem_cons_of_mem _ mb), ?_⟩
        rw [eK, if_neg (by rw [← eb]; exact (hq.2 k hk).2.1), if_pos mb]; rfl
      · rw [if_neg hk] at e; cases e
    · rw [if_neg h1] at e ⊢
      by_cases h2 : a ∈ (List.range 4).map r
      · rw [if_pos h2] at e; cases e
      · rw [if_neg h2] at e ⊢
        have ha9 : a ∈ gD σ := by
          rw [eD] at ha
          rcases List.mem_append.mp ha with w | w
          · exact w
          · rcases List.mem_cons.mp w with w | w
            · exact absurd w h1
            · exact absurd w h2
        obtain ⟨b1, b2⟩ := h.1 a ha9 k b e
        refine ⟨by rw [eD]; exact List.mem_append_left _ b1, ?_⟩
        rw [eK, if_neg (show ¬ b = q from fun w => hq.1 (w ▸ b1)), if_neg (nrs b b1)]; exact b2
  · rw [eN]
    by_cases h1 : a = q
    · rw [if_pos h1]; omega
    · rw [if_neg h1]
      by_cases h2 : a ∈ (List.range 4).map r
      · rw [if_pos h2]; omega
      · rw [if_neg h2]; exact h.2 a
theorem RG.mna {r : Nat → Nat} {q : Nat} (h : RG σ) : RG (mnaJ σ q r 4 320) := fun b j => by
  show rng (if b = q ∨ b ∈ (List.range 4).map r then 0 else gI σ b j)
  by_cases w : b = q ∨ b ∈ (List.range 4).map r
  · rw [if_pos w]; unfold rng; omega
  · rw [if_neg w]; exact h b j
theorem Ext.mna {r : Nat → Nat} {q : Nat} (hq : q ∉ gD σ ∧ ∀ i, i < 4 → r i ∉ gD σ ∧ r i ≠ q ∧ ∀ j, j < i → r j ≠ r i) : Ext σ (mnaJ σ q r 4 320) := fun a ha => by
  have n1 : a ≠ q := fun w => hq.1 (w ▸ ha)
  have n2 : a ∉ (List.range 4).map r := fun w => by
    obtain ⟨i, hi, e⟩ := List.mem_map.mp w
    exact (hq.2 i (List.mem_range.mp hi)).1 (e ▸ ha)
  refine ⟨List.mem_append_left _ ha, ?_, ?_⟩
  · show (if a = q then 200 else if a ∈ (List.range 4).map r then 101 else gk σ a) = _; rw [if_neg n1, if_neg n2]
  · show (if a = q then 4 else if a ∈ (List.range 4).map r then 320 else gn σ a) = _; rw [if_neg n1, if_neg n2]
theorem kO.mna {r : Nat → Nat} {q : Nat} : kO (mnaJ σ q r 4 320) q 200 := ⟨List.mem_append_right _ List.mem_cons_self, if_pos rfl⟩
/-- a constructor, by a plain link -/
theorem c_I (B : Cx p s m args c cc nL own D cA tys A) (hH : Hd D cA A s σ H locs) (hl : lv_has ls nL lo) (hc : CB n0 s0 σ) (hR : Rm R n0 s0) {b : Nat} {As : List Value} (hO : Ok l D cA tys A y (.code y bytes maxL none) fr lw (.ref b :: As) σ Qn Qx) (hnx : ∀ σ' E, ¬ Qx σ' E) (hy1 : y.name = "<init>") (hw : ∀ w ∈ [Cond.methodLink own index y, .instanceMethod y, .initialized y.cls, .code y bytes maxL none], w ∈ WAL) (n : Nat) (hd0 : y.cls ≠ "java/lang/invoke/MethodHandle" ∧ y.cls ≠ "java/lang/invoke/VarHandle" ∧ (parseMethodDescriptor y.desc).map (fun d => d.parameters.length) = some n) (hrm : fr + 1 ≤ R.frames ∧ 8 + (maxL + 11) + lw ≤ R.locals)
    (hn : As.length = n) {st0 : List Value} (hst : st0 = As.reverse ++ .ref b :: rest) (hW : (rest.map fun v => v.category).sum ≤ 8) (hd : decode cc pc = .ok (.invokespecial index, 3))
    (k : ∀ (σ' : Sg) (v : Option Value), Qn σ' v → JJ p l e R s m args below meth c nL D cA A n0 s0 Q σ' (pc + 3) lo (v.toList ++ rest)) :
    W p l e R s m args below meth c H locs (gc σ - n0) (gs σ - s0) Q (F0 m pc ls st0) := by
  subst hst
  refine j_after (Qx := Qx) (a := (Value.ref b :: As).toArray) (run_x (va_runI (As := As) (rest := rest) (b := b) ⟨B.1, B.2.1, B.2.2.2.2.2.1, B.2.2.1, B.2.2.2.1⟩ (met_of hO (fun E st t h => by obtain ⟨σ', h1, -⟩ := h; exact hnx σ' E h1)) (cwI n B.2.2.2.1 (wal_good (wal_self (hw _ (by simp)))) rfl rfl rfl (B.2.2.2.1 _ (hw _ (by simp))) (B.2.2.2.1 _ (hw _ (by simp))) (B.2.2.2.1 _ (hw _ (by simp))) hy1 hd0 hrm) ⟨pw_blind _, fun U hU hW => pw_here B hH hc _ U hU hW⟩ rfl hn hl.1 rfl (lv_room hW) hd ⟨?_, ?_⟩)) hH hl hc k (fun σ' E h => (hnx σ' E h).elim)
  · have h1 := hc.1; have h2 := hc.2.2.1; rw [hR.1]; omega
  · have h1 := hc.2.1; have h2 := hc.2.2.2; rw [hR.2]; omega
theorem f_putFi (B : Cx p s m args c cc nL own D cA tys A) (hH : Hd D cA A s σ H locs) {ref C : String} {T : u_T} {N ci index a : Nat} (ho : kO σ a ci) (hci : ci < 100) (hc : vwCl[ci]? = some (C, T, N)) (hin : ∀ w ∈ u_ws C T N, w ∈ WAL) (ty0 : Nat → FieldType) (hty0 : ∀ k, k < N → parseFieldDescriptor (T k).2.2.1 = some (ty0 k)) (hnm : ∀ a, a < N → ∀ b, b < N → a ≠ b → (T a).2.1 ≠ (T b).2.1) (k : Nat) (hkN : k < N) (hlink : Cond.fieldLink own index ref (T k).2.1 (T k).2.2.1 ∈ WAL) (hsame : ref = (T k).1) {x : Int} {cells slots : Nat} {ty : FieldType} (hfin : (T k).2.2.2 = true) (hin2 : meth.name = "<init>") (hdecl : (T k).1 = own) (hty : fty (T k).2.2.1 = 0) (hds : parseFieldDescriptor (T k).2.2.1 = some ty) (hn : narrow ty (.int (i32 x)) = .int (i32 x)) (hfit : fits ty (.int (i32 x)) = true) (hd : decode cc pc = .ok (.putfield index, 3)) (h : ∀ (H1 : Heap) (locs1 : List Loc), Hd D cA A s (pI σ a k x) H1 locs1 → W p l e R s m args below meth c H1 locs1 cells slots Q (F0 m (pc + 3) ls rest)) : W p l e R s m args below meth c H locs cells slots Q (F0 m pc ls (.int (i32 x) :: .ref a :: rest)) :=
  h_putF B hH ho.1 ho.2 hci hc hin ty0 hty0 hnm k hkN hlink hsame hfin hin2 hdecl hds hn hfit (σ' := pI σ a k x) rfl (by rw [ent_obj (σ := pI σ a k x) (ci := ci) ho.2 hc hci, flds_setI (r := (C, T, N)) hty]) (fun b hb => ent_offI hb) hd h
end CNW

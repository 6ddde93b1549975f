/-! sums over the things there are -/
def ns (D : List Nat) (gq : Nat → Nat) (LL : Nat → List Nat) (g : Nat) : Nat := (D.map (fun x => if gq x = g then (LL x).length else 0)).sum
def nt (D : List Nat) (LL : Nat → List Nat) : Nat := (D.map (fun x => (LL x).length)).sum
theorem map_sum_congr {f g : Nat → Nat} : ∀ {D : List Nat}, (∀ x ∈ D, f x = g x) → (D.map f).sum = (D.map g).sum
  | [], _ => rfl
  | d :: D, h => by
    rw [List.map_cons, List.map_cons, List.sum_cons, List.sum_cons, h d List.mem_cons_self, map_sum_congr (fun x hx => h x (List.mem_cons_of_mem _ hx))]
theorem map_sum_up {f g : Nat → Nat} {a : Nat} : ∀ {D : List Nat}, D.Nodup → a ∈ D → (∀ x ∈ D, x ≠ a → f x = g x) → (D.map f).sum + g a = (D.map g).sum + f a
  | [], _, h, _ => nomatch h
  | d :: D, hn, ha, h => by
    obtain ⟨h1, h2⟩ := List.nodup_cons.mp hn
    rw [List.map_cons, List.map_cons, List.sum_cons, List.sum_cons]
    by_cases e : a = d
    · subst e
      have := map_sum_congr (f := f) (g := g) (D := D) (fun x hx => h x (List.mem_cons_of_mem _ hx) (fun e => h1 (e ▸ hx)))
      omega
    · have ha2 : a ∈ D := (List.mem_cons.mp ha).resolve_left e
      have ih := map_sum_up (f := f) (g := g) h2 ha2 (fun x hx => h x (List.mem_cons_of_mem _ hx))
      have hd := h d List.mem_cons_self (fun q => e q.symm)
      omega
theorem map_sum_le {f g : Nat → Nat} : ∀ {D : List Nat}, (∀ x ∈ D, f x ≤ g x) → (D.map f).sum ≤ (D.map g).sum
  | [], _ => Nat.le_refl _
  | d :: D, h => by
    rw [List.map_cons, List.map_cons, List.sum_cons, List.sum_cons]
    have := map_sum_le (f := f) (g := g) (D := D) (fun x hx => h x (List.mem_cons_of_mem _ hx)); have := h d List.mem_cons_self; omega
theorem map_sum_zero {f : Nat → Nat} : ∀ {D : List Nat}, (∀ x ∈ D, f x = 0) → (D.map f).sum = 0
  | [], _ => rfl
  | d :: D, h => by
    rw [List.map_cons, List.sum_cons, h d List.mem_cons_self, map_sum_zero (fun x hx => h x (List.mem_cons_of_mem _ hx))]
theorem map_sum_mem {f : Nat → Nat} {a : Nat} : ∀ {D : List Nat}, a ∈ D → f a ≤ (D.map f).sum
  | [], h => nomatch h
  | d :: D, h => by
    rw [List.map_cons, List.sum_cons]
    rcases List.mem_cons.mp h with e | e
    · subst e; omega
    · have := map_sum_mem (f := f) e; omega
theorem map_sum_add {f g : Nat → Nat} : ∀ {D : List Nat}, (D.map (fun x => f x + g x)).sum = (D.map f).sum + (D.map g).sum
  | [] => rfl
  | d :: D => by
    rw [List.map_cons, List.map_cons, List.map_cons, List.sum_cons, List.sum_cons, List.sum_cons, map_sum_add]; omega
theorem map_sum_app {f : Nat → Nat} (D E : List Nat) : ((D ++ E).map f).sum = (D.map f).sum + (E.map f).sum := by
  rw [List.map_append, List.sum_append]
theorem ns_up {D : List Nat} {gq : Nat → Nat} {LL : Nat → List Nat} {a : Nat} {L : List Nat} (hn : D.Nodup) (ha : a ∈ D) (g : Nat) : ns D gq (up1 LL a L) g + (if gq a = g then (LL a).length else 0) = ns D gq LL g + (if gq a = g then L.length else 0) := by
  have := map_sum_up (f := fun x => if gq x = g then (up1 LL a L x).length else 0) (g := fun x => if gq x = g then (LL x).length else 0) hn ha (fun x _ hx => by rw [up1_n _ _ hx])
  simp only [up1_s] at this
  exact this
theorem nt_up {D : List Nat} {LL : Nat → List Nat} {a : Nat} {L : List Nat} (hn : D.Nodup) (ha : a ∈ D) : nt D (up1 LL a L) + (LL a).length = nt D LL + L.length := by
  have := map_sum_up (f := fun x => (up1 LL a L x).length) (g := fun x => (LL x).length) hn ha (fun x _ hx => by rw [up1_n _ _ hx])
  simp only [up1_s] at this
  exact this
theorem ns_mem {D : List Nat} {gq : Nat → Nat} {LL : Nat → List Nat} {a : Nat} (ha : a ∈ D) : (LL a).length ≤ ns D gq LL (gq a) := by
  have := map_sum_mem (f := fun x => if gq x = gq a then (LL x).length else 0) ha
  simp only [if_true] at this
  exact this
theorem ns_zero {D : List Nat} {gq : Nat → Nat} {LL : Nat → List Nat} {g : Nat} (h : ∀ x ∈ D, gq x = g → LL x = []) : ns D gq LL g = 0 := by
  refine map_sum_zero (fun x hx => ?_)
  split
  · rename_i e; rw [h x hx e]; rfl
  · rfl
theorem ns_one {D : List Nat} {gq : Nat → Nat} {LL : Nat → List Nat} {a : Nat} (hn : D.Nodup) (ha : a ∈ D) (h : ∀ x ∈ D, gq x = gq a → x ≠ a → LL x = []) : ns D gq LL (gq a) = (LL a).length := by
  have := map_sum_up (f := fun x => if gq x = gq a then (LL x).length else 0) (g := fun _ => 0) hn ha (fun x hx hxa => by
    show (if gq x = gq a then (LL x).length else 0) = 0
    split
    · rename_i e; rw [h x hx e hxa]; rfl
    · rfl)
  have z : (D.map (fun _ => 0)).sum = 0 := map_sum_zero (fun _ _ => rfl)
  simp only [if_true] at this
  unfold ns
  omega
/-- the groups that there are -/
def GL : List Nat := [11, 12, 13, 14, 21, 22, 31, 32, 41, 42, 44, 50, 60, 61, 62, 63, 64, 65, 66, 67, 68, 69, 70, 71, 74, 80, 81, 82, 83, 84, 85, 86, 87, 88, 89, 90, 91, 92, 93, 94, 95]
theorem nt_le {D : List Nat} {gq : Nat → Nat} {LL : Nat → List Nat} : ∀ (G : List Nat), (∀ x ∈ D, LL x ≠ [] → gq x ∈ G) → nt D LL ≤ (G.map (fun g => ns D gq LL g)).sum
  | [], h => by
    have : nt D LL = 0 := map_sum_zero (fun x hx => by
      by_cases e : LL x = []
      · rw [e]; rfl
      · exact absurd (h x hx e) (by simp))
    omega
  | g :: G, h => by
    have e1 : nt D LL ≤ ns D gq LL g + nt D (fun x => if gq x = g then [] else LL x) := by
      unfold nt ns
      rw [← map_sum_add]
      refine map_sum_le (fun x _ => ?_)
      show (LL x).length ≤ (if gq x = g then (LL x).length else 0) + (if gq x = g then [] else LL x).length
      split <;> simp
    have e2 := nt_le (D := D) (gq := gq) (LL := fun x => if gq x = g then [] else LL x) G (fun x hx hL => by
      by_cases e : gq x = g
      · exact absurd (show (if gq x = g then [] else LL x) = [] by rw [if_pos e]) hL
      · have hL2 : LL x ≠ [] := fun q => hL (show (if gq x = g then [] else LL x) = [] by rw [if_neg e]; exact q)
        rcases List.mem_cons.mp (h x hx hL2) with q | q
        · exact absurd q e
        · exact q)
    have e3 : (G.map (fun g' => ns D gq (fun x => if gq x = g then [] else LL x) g')).sum ≤ (G.map (fun g' => ns D gq LL g')).sum := map_sum_le (fun g' _ => map_sum_le (fun x _ => by
      show (if gq x = g' then (if gq x = g then [] else LL x).length else 0) ≤ (if gq x = g' then (LL x).length else 0)
      split
      · split <;> simp
      · exact Nat.le_refl _))
    rw [List.map_cons, List.sum_cons]
    omega
/-! the parts of the invariant -/
/-- in which array of tasks the thing stands that this belongs to -/
def tlab (k q : Nat) : Nat := if k = 10 then (if q ≤ 3 then q else 0) else if k = 1 then (if 11 ≤ q ∧ q ≤ 13 then 1 else if 21 ≤ q ∧ q ≤ 23 then 2 else if 31 ≤ q ∧ q ≤ 33 then 3 else 0) else 0
/-- whether it belongs to a channel -/
def clab (k q : Nat) : Bool := decide (k = 2) || (decide (k = 1) && decide (q = 50))
def SB (σ : Sg) (gq ci nu : Nat → Nat) : Prop :=
  (nu 0 ≤ 64 ∧ nu 1 ≤ 512) ∧
  (∀ t, kO σ t 120 → gq t = 1 → ∀ j, j < nu 0 → gP σ t j ≠ none) ∧
  (∀ t, kO σ t 112 → ∀ j, j < nu 1 → gP σ t j ≠ none) ∧
  (∀ c, kO σ c 2 → ci c < nu 16 → (0 ≤ gI σ c 1 ∧ gI σ c 1 < (nu 0 : Int)) ∧ (0 ≤ gI σ c 2 ∧ gI σ c 2 < (nu 0 : Int)) ∧ (gI σ c 7 = -1 ∨ ((ci c : Int) < gI σ c 7 ∧ gI σ c 7 < (nu 16 : Int)))) ∧
  (∀ r, kO σ r 9 → ∀ t, kO σ t 10 → gq t = 1 → (ci t : Int) < gI σ r 10 → gI σ t 11 + gI σ t 12 ≤ gI σ r 11 ∧ (-1 ≤ gI σ t 14 ∧ gI σ t 14 < (nu 16 : Int)) ∧ (-1 ≤ gI σ t 15 ∧ gI σ t 15 < gI σ r 11) ∧ gI σ t 0 < (nu 17 : Int)) ∧
  (nu 10 ≤ nu 1 + 1 ∧ (∀ t, kO σ t 112 → nu 10 ≤ nu 1 ∨ gP σ t (nu 1) ≠ none) ∧ (∀ x ∈ gD σ, tlab (gk σ x) (gq x) ≠ 0 → ∀ t, kO σ t 120 → gq t = tlab (gk σ x) (gq x) → ci x < 64 ∧ gP σ t (ci x) ≠ none) ∧ (∀ x ∈ gD σ, clab (gk σ x) (gq x) = true → ∀ t, kO σ t 112 → ci x < 512 ∧ gP σ t (ci x) ≠ none ∧ (gk σ x = 2 → gq x = 0))) ∧
  ((∃ r, kO σ r 9 ∧ gI σ r 10 = (nu 15 : Int) ∧ gI σ r 11 = (nu 16 : Int)) ∧ (∃ w, kO σ w 11 ∧ gq w = 1) ∧ (∃ w, kO σ w 11 ∧ gq w = 4) ∧ (∃ d, kO σ d 3) ∧ (∃ p, kO σ p 7))
/-- how many stand in what -/
def SC (σ : Sg) (gq N : Nat → Nat) : Prop :=
  (∀ w, kO σ w 11 → (gq w = 1 ∨ gq w = 4) ∧ ((N (10 * gq w + 1) : Nat) : Int) + (N (10 * gq w + 2) : Nat) ≤ gI σ w 4) ∧
  (∀ r, kO σ r 9 → ((N 13 : Nat) : Int) ≤ gI σ r 14) ∧
  (∀ d, kO σ d 3 → ∀ p s, gP σ d 0 = some p → gP σ d 1 = some s → ((gq p = 2 ∧ gq s = 3) ∨ (gq p = 3 ∧ gq s = 2)) ∧ ((N (10 * gq p + 1) : Nat) : Int) + (N (10 * gq p + 2) : Nat) ≤ gI σ d 7 + (if gI σ d 3 = 0 then ((N 5 : Nat) : Int) else 4000) ∧ N (10 * gq s + 1) + N (10 * gq s + 2) ≤ 8000 ∧ N (10 * gq p + 1) + N (10 * gq p + 2) + N (10 * gq s + 1) + N (10 * gq s + 2) ≤ 16000) ∧
  (N 60 + N 61 + N 62 + N 63 + N 64 + N 65 + N 66 + N 67 + N 68 + N 69 + N 70 + N 71 ≤ 2000) ∧
  (∀ p, kO σ p 7 → ((N 80 + N 81 + N 82 + N 83 + N 84 + N 85 + N 86 + N 87 + N 88 + N 89 + N 90 + N 91 + N 92 + N 93 + N 94 + N 95 : Nat) : Int) ≤ gI σ p 6)
/-- a place for x -/
def PlC (σ : Sg) (gq ci : Nat → Nat) (ot : Nat → Nat → Int) (x : Nat) : Prop := gq x ∈ GL ∧ ((gq x = 11 ∨ gq x = 12 ∨ gq x = 13) → ∀ r, kO σ r 9 → (ci x : Int) < gI σ r 10) ∧ (gq x = 50 → ∀ r, kO σ r 9 → (ci x : Int) < gI σ r 11) ∧ ((gq x = 21 ∨ gq x = 22) → ∀ t, kO σ t 120 → gq t = 2 → ci x < 64 ∧ gP σ t (ci x) ≠ none) ∧ ((gq x = 31 ∨ gq x = 32) → ∀ t, kO σ t 120 → gq t = 3 → ci x < 64 ∧ gP σ t (ci x) ≠ none) ∧ ((gq x = 21 ∨ gq x = 22 ∨ gq x = 31 ∨ gq x = 32) → 0 ≤ ot (ci x / 4) 7) ∧ ((gq x = 11 ∨ gq x = 12) → ∀ t, kO σ t 10 → gq t = 1 → ci t = ci x → 0 ≤ ot (gI σ t 0).toNat 7)
/-- where cells stand -/
def SS (σ : Sg) (pl : Nat) (gq ci : Nat → Nat) (ot : Nat → Nat → Int) (LL : Nat → List Nat) (N nu : Nat → Nat) : Prop :=
  (gD σ).Nodup ∧ gq pl = 0 ∧ (∀ g, g = 0 ∨ 11 ≤ g → N g = ns (gD σ) gq LL g) ∧
  (∀ x, kO σ x 1 → gq x = 50 → (LL x).length ≤ 8) ∧ ((gD σ).countP (fun x => decide (gk σ x = 1 ∧ gq x = 50)) ≤ nu 10) ∧
  (∀ x, kO σ x 1 → LL x ≠ [] → PlC σ gq ci ot x) ∧
  (∀ x, kO σ x 1 → gq x = 13 → ∀ c ∈ LL x, 0 ≤ gI σ c 3 ∧ gI σ c 3 < (nu 16 : Int)) ∧
  (N 2 = nt (gD σ) LL + N 1)
def OpOK (ot : Nat → Nat → Int) (i : Nat) : Prop :=
  (0 ≤ ot i 6 ∧ ot i 6 ≤ 11) ∧ (-1 ≤ ot i 7 ∧ ot i 7 < i) ∧ (-1 ≤ ot i 8 ∧ ot i 8 < i) ∧ (1 ≤ ot i 6 → 0 ≤ ot i 7) ∧
  (ot i 6 = 3 ∨ ot i 6 = 6 ∨ ot i 6 = 7 → 0 ≤ ot i 8) ∧ (ot i 6 = 6 ∨ ot i 6 = 7 → ot (ot i 7).toNat 3 ≤ ot i 3) ∧ (ot i 6 = 10 → ot (ot i 7).toNat 3 ≤ 7) ∧
  (ot i 6 = 4 ∨ ot i 6 = 5 → ot i 4 ≤ 4) ∧ (ot i 6 = 0 ∨ ot i 6 = 11 → ot i 9 ≤ 3) ∧ (0 ≤ ot i 3 ∧ ot i 3 ≤ 8) ∧ (0 ≤ ot i 4 ∧ ot i 4 ≤ 8) ∧ (0 ≤ ot i 9) ∧ (ot i 6 = 0 → ot i 7 = -1 ∧ ot i 8 = -1)
/-- the job that counts: nc 0 which, nc 1 how many operators, nc 2 how many outputs -/
def SO (σ : Sg) (gq gr nc : Nat → Nat) (ot : Nat → Nat → Int) : Prop :=
  (nc 1 ≤ 16 ∧ nc 1 ≤ 16 ∧ nc 2 ≤ 4) ∧ (∀ i, i < nc 1 → OpOK ot i) ∧ (∀ i, i < nc 2 → 0 ≤ ot 16 i ∧ ot 16 i < nc 1 ∧ ot (ot 16 i).toNat 6 = 11) ∧
  (∀ o, kO σ o 5 → ∀ i, i < nc 1 → gq o = 16 * nc 0 + i → ∀ k, 3 ≤ k → k ≤ 16 → gI σ o k = ot i k) ∧
  (∀ J, kO σ J 4 → gq J = nc 0 → gI σ J 1 = nc 1 ∧ gI σ J 2 = nc 2 ∧ ∀ a, gP σ J 3 = some a → ∀ i, i < nc 2 → gI σ a i = ot 16 i)
def KC : Nat := 2000
def KS : Nat := 1000000
/-- room -/
def SU (σ : Sg) (gq N nu : Nat → Nat) : Prop :=
  (gc σ ≤ KC + 2 * N 2 + 4 * (nu 0 + nu 8 + nu 9) + 2 * nu 10 + nu 12 + nu 13 + nu 14 + nu 5) ∧ (gs σ ≤ KS + 16 * N 2 + 40 * (nu 0 + nu 8 + nu 9) + 20 * nu 10 + 2 * nu 12 + 4 * (nu 13 + nu 14) + 6 * nu 5) ∧
  (nu 5 ≤ 24000 ∧ nu 8 ≤ 64 ∧ nu 9 ≤ 64 ∧ nu 12 ≤ 240100 ∧ nu 13 ≤ 12400 ∧ nu 14 ≤ 12400 ∧ N 2 ≤ 80000) ∧
  (∀ p, kO σ p 8 → ∀ w, gP σ p 2 = some w → nu 12 ≤ gn σ w) ∧
  (∀ J, kO σ J 4 → ∀ c, gP σ J 5 = some c → (gq J = 0 → nu 13 ≤ gn σ c) ∧ (gq J = 1 → nu 14 ≤ gn σ c) ∧ (∀ m, gP σ J 6 = some m → gn σ m = gn σ c) ∧ gI σ J 7 ≤ gn σ c) ∧
  (∀ t, kO σ t 120 → (gq t = 2 → nu 8 ≤ ((List.range 64).countP (fun i => (gP σ t i).isSome))) ∧ (gq t = 3 → nu 9 ≤ ((List.range 64).countP (fun i => (gP σ t i).isSome))))
/-- times are within bounds (N 3); what was given has the times that it may have -/
def tb (M : Nat) (x : Int64) : Prop := -(M : Int) ≤ x.toInt ∧ x.toInt ≤ (M : Int)
def SJ (σ : Sg) (gr N : Nat → Nat) : Prop :=
  (∀ c, kO σ c 0 → tb (N 3) (gJ σ c 5) ∧ tb (N 3) (gJ σ c 6)) ∧ (∀ c, kO σ c 2 → tb (N 3) (gJ σ c 4)) ∧ (∀ t, kO σ t 10 → tb (N 3) (gJ σ t 7)) ∧
  (∀ g, kO σ g 101 → gr g = 9 → ∀ p, p < 64 → 0 ≤ (gJ σ g (5 * p)).toInt ∧ (gJ σ g (5 * p)).toInt ≤ 1000000) ∧ (2199023255552 ≤ N 3 ∧ N 3 ≤ 2305843009213693952)
/-- the class's invariant -/
def IV (σ : Sg) (pl : Nat) (gq ci gr nc : Nat → Nat) (ot : Nat → Nat → Int) (LL : Nat → List Nat) (N nu : Nat → Nat) : Prop :=
  SA σ gq ci gr nu ∧ SB σ gq ci nu ∧ SC σ gq N ∧ SS σ pl gq ci ot LL N nu ∧ SO σ gq gr nc ot ∧ SU σ gq N nu ∧ (RG σ ∧ SJ σ gr N) ∧ ∃ own, HP σ pl LL own
/-! what may have changed -/
def fcd (σ : Sg) (gr : Nat → Nat) (a k : Nat) : Nat := if labN σ gr a = 1 then 64 else if labN σ gr a < 100 then (if k < 64 then labN σ gr a * 64 + k else 20000) else labN σ gr a * 64
def Sm (σ σ' : Sg) (a k : Nat) : Prop := gI σ' a k = gI σ a k ∧ gP σ' a k = gP σ a k ∧ gJ σ' a k = gJ σ a k
/-- nothing new, and only fields of L have changed -/
def Sk (L : List Nat) (gr : Nat → Nat) (σ σ' : Sg) : Prop := gD σ' = gD σ ∧ gk σ' = gk σ ∧ gn σ' = gn σ ∧ ∀ a ∈ gD σ, ∀ k, fcd σ gr a k ∉ L → Sm σ σ' a k
def Fx (L : List Nat) (gr : Nat → Nat) (σ σ' : Sg) : Prop := Ext σ σ' ∧ ∀ a ∈ gD σ, ∀ k, fcd σ gr a k ∉ L → Sm σ σ' a k
section FRX
variable {σ σ' σ'' : Sg} {gr : Nat → Nat} {L M : List Nat} {a k : Nat}
theorem Sm.rf : Sm σ σ a k := ⟨rfl, rfl, rfl⟩
theorem Sm.tr (h : Sm σ σ' a k) (h2 : Sm σ' σ'' a k) : Sm σ σ'' a k := ⟨h2.1.trans h.1, h2.2.1.trans h.2.1, h2.2.2.trans h.2.2⟩
theorem labE (e : Ext σ σ') (ha : a ∈ gD σ) : labN σ' gr a = labN σ gr a := by unfold labN; rw [(e a ha).2.1]
theorem fcdE (e : Ext σ σ') (ha : a ∈ gD σ) : fcd σ' gr a k = fcd σ gr a k := by unfold fcd; rw [labE e ha]
theorem Fx.rf : Fx L gr σ σ := ⟨Ext.rfl' σ, fun _ _ _ _ => Sm.rf⟩
theorem Fx.tr (h : Fx L gr σ σ') (h2 : Fx L gr σ' σ'') : Fx L gr σ σ'' := ⟨h.1.trans h2.1, fun a ha k hk => (h.2 a ha k hk).tr (h2.2 a (h.1 a ha).1 k (by rw [fcdE h.1 ha]; exact hk))⟩
theorem Fx.mo (h : Fx L gr σ σ') (hs : ∀ x ∈ L, x ∈ M) : Fx M gr σ σ' := ⟨h.1, fun a ha k hk => h.2 a ha k (fun q => hk (hs _ q))⟩
theorem Sk.ext (h : Sk L gr σ σ') : Ext σ σ' := fun a ha => ⟨by rw [h.1]; exact ha, by rw [h.2.1], by rw [h.2.2.1]⟩
theorem Sk.fx (h : Sk L gr σ σ') : Fx L gr σ σ' := ⟨h.ext, h.2.2.2⟩
theorem Sk.ko (h : Sk L gr σ σ') {j : Nat} : kO σ' a j ↔ kO σ a j := by unfold kO; rw [h.1, h.2.1]
theorem fcdO {l : Nat} (ha : kO σ a l) (hl : l < 100 ∧ l ≠ 1 ∧ k < 64) : fcd σ gr a k = l * 64 + k := by unfold fcd; rw [labO ha (by omega), if_neg hl.2.1, if_pos hl.1, if_pos hl.2.2]
theorem fcdC (ha : kO σ a 1) : fcd σ gr a k = 64 := by unfold fcd; rw [labO ha (by omega), if_pos rfl]
theorem fcdA {l : Nat} (ha : kO σ a l) (hl : 100 < l) : fcd σ gr a k = l * 64 := by unfold fcd; rw [labO ha (by omega), if_neg (by omega), if_neg (by omega)]
theorem fcdI (ha : kO σ a 100) : fcd σ gr a k = (130 + gr a) * 64 := by unfold fcd; rw [labI ha, if_neg (by omega), if_neg (by omega)]
/-- a field that has not changed -/
theorem Fx.O {l : Nat} (h : Fx L gr σ σ') (ha : kO σ a l) (hl : (l < 100 ∧ l ≠ 1 ∧ k < 64) ∧ l * 64 + k ∉ L) : Sm σ σ' a k := h.2 a ha.1 k (by rw [fcdO ha hl.1]; exact hl.2)
theorem Fx.A {l : Nat} (h : Fx L gr σ σ') (ha : kO σ a l) (hl : 100 < l ∧ l * 64 ∉ L) : Sm σ σ' a k := h.2 a ha.1 k (by rw [fcdA ha hl.1]; exact hl.2)
theorem Sk.O {l : Nat} (h : Sk L gr σ σ') (ha : kO σ a l) (hl : (l < 100 ∧ l ≠ 1 ∧ k < 64) ∧ l * 64 + k ∉ L) : Sm σ σ' a k := h.2.2.2 a ha.1 k (by rw [fcdO ha hl.1]; exact hl.2)
theorem Sk.C (h : Sk L gr σ σ') (ha : kO σ a 1) (hl : 64 ∉ L) : Sm σ σ' a k := h.2.2.2 a ha.1 k (by rw [fcdC ha]; exact hl)
theorem Fx.C (h : Fx L gr σ σ') (ha : kO σ a 1) (hl : 64 ∉ L) : Sm σ σ' a k := h.2 a ha.1 k (by rw [fcdC ha]; exact hl)
theorem Sk.A {l : Nat} (h : Sk L gr σ σ') (ha : kO σ a l) (hl : 100 < l ∧ l * 64 ∉ L) : Sm σ σ' a k := h.2.2.2 a ha.1 k (by rw [fcdA ha hl.1]; exact hl.2)
theorem Sk.pI {x : Int} (ha : fcd σ gr a k ∈ L) : Sk L gr σ (pI σ a k x) := ⟨rfl, rfl, rfl, fun b hb j hj => ⟨by rw [gI_pI]; exact up2_n _ _ (fun e => hj (by rw [e.1, e.2]; exact ha)), rfl, rfl⟩⟩
theorem Sk.pJ {x : Int64} (ha : fcd σ gr a k ∈ L) : Sk L gr σ (pJ σ a k x) := ⟨rfl, rfl, rfl, fun b hb j hj => ⟨rfl, rfl, by rw [gJ_pJ]; exact up2_n _ _ (fun e => hj (by rw [e.1, e.2]; exact ha))⟩⟩
theorem Sk.pP {x : Option Nat} (ha : fcd σ gr a k ∈ L) : Sk L gr σ (pP σ a k x) := ⟨rfl, rfl, rfl, fun b hb j hj => ⟨rfl, by rw [gP_pP]; exact up2_n _ _ (fun e => hj (by rw [e.1, e.2]; exact ha)), rfl⟩⟩
end FRX

/-! the class's invariant: gq: which of its like a thing is; ci: at which place it stands; gr: what an int array is for; nu: how many tasks (0), channels (1), SETS (2) there is place for, cells made (3), in hand or lost (4), throws (5), the job that counts (6), its operators (7), parts made (8, 9) -/
def labN (σ : Sg) (gr : Nat → Nat) (a : Nat) : Nat := if gk σ a = 100 then 130 + gr a else gk σ a
def lbLo (l k : Nat) : Int := if l = 0 then (if k = 3 then -1 else if k = 4 then -1 else (-2147483648)) else if l = 2 then (if k = 5 then 0 else (-2147483648)) else if l = 3 then (if k = 5 then 0 else if k = 7 then 0 else if k = 9 then 0 else (-2147483648)) else if l = 4 then (if k = 1 then 0 else if k = 2 then 0 else if k = 7 then 0 else if k = 9 then 0 else if k = 10 then 0 else (-2147483648)) else if l = 5 then (if k = 3 then 0 else if k = 4 then 0 else if k = 6 then 0 else if k = 7 then -1 else if k = 8 then -1 else if k = 9 then 0 else if k = 10 then 0 else if k = 11 then 0 else if k = 12 then 0 else if k = 13 then 0 else if k = 14 then 0 else if k = 15 then -1000 else if k = 16 then -1000 else (-2147483648)) else if l = 6 then (if k = 1 then 0 else if k = 2 then 0 else if k = 5 then 0 else (-2147483648)) else if l = 7 then (if k = 6 then 0 else (-2147483648)) else if l = 8 then (if k = 1 then 0 else (-2147483648)) else if l = 9 then (if k = 10 then 0 else if k = 11 then 0 else if k = 12 then 0 else if k = 13 then 0 else if k = 14 then 0 else if k = 16 then 0 else (-2147483648)) else if l = 10 then (if k = 0 then 0 else if k = 1 then 0 else if k = 6 then 0 else if k = 10 then 0 else if k = 11 then 0 else if k = 12 then 0 else if k = 13 then 0 else (-2147483648)) else if l = 11 then (if k = 1 then 4000 else if k = 4 then 0 else (-2147483648)) else if l = 12 then (if k = 1 then 0 else (-2147483648)) else if l = 131 then 0 else if l = 132 then 0 else if l = 133 then 0 else (-2147483648)
def lbHi (nu : Nat → Nat) (l k : Nat) : Int := if l = 0 then (if k = 3 then nu 1 - 1 else if k = 4 then nu 2 - 1 else 2147483647) else if l = 2 then (if k = 5 then 1 else 2147483647) else if l = 3 then (if k = 5 then 4 else if k = 7 then 4000 else if k = 9 then 1 else 2147483647) else if l = 4 then (if k = 1 then 16 else if k = 2 then 4 else if k = 7 then 6200 else if k = 9 then 64 else if k = 10 then 1 else 2147483647) else if l = 5 then (if k = 3 then 8 else if k = 4 then 8 else if k = 6 then 11 else if k = 7 then 15 else if k = 8 then 15 else if k = 9 then 9 else if k = 10 then 1000 else if k = 11 then 1000 else if k = 12 then 1000 else if k = 13 then 7 else if k = 14 then 7 else if k = 15 then 1000 else if k = 16 then 1000 else 2147483647) else if l = 6 then (if k = 1 then 1500 else if k = 2 then 1500 else if k = 5 then 1500 else 2147483647) else if l = 7 then (if k = 6 then 4000 else 2147483647) else if l = 8 then (if k = 1 then nu 2 else 2147483647) else if l = 9 then (if k = 10 then nu 0 else if k = 11 then nu 1 else if k = 12 then 4 else if k = 13 then 8 else if k = 14 then 4000 else if k = 16 then 1 else 2147483647) else if l = 10 then (if k = 0 then 15 else if k = 1 then 3 else if k = 6 then 64 else if k = 10 then 1 else if k = 11 then 512 else if k = 12 then 512 else if k = 13 then 511 else 2147483647) else if l = 11 then (if k = 1 then 4001 else if k = 4 then 4001 else 2147483647) else if l = 12 then (if k = 1 then 1500 else 2147483647) else if l = 131 then 15 else if l = 132 then 64 else if l = 133 then 64 else 2147483647
def lbN (l k n : Nat) : Bool := if l = 0 then decide (k ∈ [0]) else if l = 2 then decide (k ∈ [0]) else if l = 3 then decide (k ∈ [0, 1]) else if l = 4 then decide (k ∈ [0, 3, 4, 5, 6, 8, 11, 12, 13]) else if l = 5 then decide (k ∈ [0, 1, 2]) else if l = 7 then decide (k ∈ [0, 1, 2, 3, 4]) else if l = 8 then decide (k ∈ [2]) else if l = 9 then decide (k ∈ [0, 1, 2, 3, 4, 5, 6, 7, 8]) else if l = 10 then decide (k ∈ [2, 3, 4]) else if l = 11 then decide (k ∈ [0, 2, 3]) else if l = 12 then decide (k ∈ [0, 3, 4, 5, 6, 7, 8]) else if l = 111 then decide (k < n) else if l = 115 then decide (k < 16) else if l = 200 then decide (k < 4) else false
def lbT (nu : Nat → Nat) (l qa ca k qb cb nb rb : Nat) : Prop := if l = 0 then (if k = 0 then (nb = 8 ∧ rb = 0) else True) else if l = 2 then (if k = 0 then (qb = 50 ∧ cb = ca) else True) else if l = 3 then (if k = 0 then (nb = 64 ∧ (qb = 2 ∨ qb = 3)) else if k = 1 then (nb = 64 ∧ (qb = 2 ∨ qb = 3)) else True) else if l = 4 then (if k = 0 then (nb = 16 ∧ qb = 100 + qa) else if k = 3 then (nb = 4 ∧ rb = 1 ∧ qb = qa) else if k = 4 then (nb = 4 ∧ rb = 0) else if k = 5 then (rb = 0 ∧ 64 ≤ nb ∧ nb ≤ 12400) else if k = 6 then (rb = 0) else if k = 8 then (nb = 64 ∧ rb = 0) else if k = 11 then (nb = 4) else if k = 12 then (nb = 4 ∧ rb = 2) else if k = 13 then (nb = 4) else True) else if l = 5 then (if k = 0 then (nb = 8 ∧ rb = 0) else if k = 1 then (nb = 8 ∧ rb = 0) else if k = 2 then (nb = 4 ∧ rb = 0) else True) else if l = 7 then (if k = 1 then (qb = 4) else if k = 2 then (qb = 4 ∧ cb = 0) else if k = 3 then (nb = 16 ∧ qb = 146) else if k = 4 then (qb = 74 ∧ cb = 0) else True) else if l = 8 then (if k = 2 then (4 * nu 2 ≤ nb ∧ 256 ≤ nb ∧ nb ≤ 240100 ∧ rb = 0) else True) else if l = 9 then (if k = 1 then (qb = 1) else if k = 3 then (nb = 64 ∧ qb = 1) else if k = 4 then (nb = 512) else if k = 5 then (nb = 17 ∧ rb = 3) else if k = 6 then (nb = 4 ∧ qb = 151) else if k = 7 then (nb = 4 ∧ qb = 152) else if k = 8 then (nb = 4 ∧ qb = 153) else True) else if l = 10 then (if k = 2 then (qb = 10 * qa + 1 ∧ cb = ca) else if k = 3 then (qb = 10 * qa + 2 ∧ cb = ca) else if k = 4 then (qb = 10 * qa + 3 ∧ cb = ca) else True) else if l = 11 then (if k = 2 then (qb = 10 * qa + 4 ∧ cb = 0) else if k = 3 then (nb = 4 ∧ rb = 0) else True) else if l = 12 then (if k = 0 then (nb = 1500) else True) else if l = 111 then ((qa = 151 → qb = 60 + k) ∧ (qa = 152 → qb = 64 + k) ∧ (qa = 153 → qb = 68 + k) ∧ (qa = 146 → qb = 80 + k) ∧ cb = 0) else if l = 112 then (cb = k) else if l = 115 then (qb = 16 * (qa - 100) + k) else if l = 120 then (qb = qa ∧ cb = k) else if l = 200 then (nb = 320 ∧ rb = 9) else True
/-- what leads to things that are looked at -/
def lbX (l k : Nat) : Bool := if l = 0 then decide (k ∈ [0]) else if l = 2 then decide (k ∈ [0]) else if l = 3 then decide (k ∈ [0, 1]) else if l = 4 then decide (k ∈ [0, 3, 4, 5, 6, 8, 11, 12, 13]) else if l = 5 then decide (k ∈ [0, 1, 2]) else if l = 7 then decide (k ∈ [1, 2, 3, 4]) else if l = 8 then decide (k ∈ [2]) else if l = 9 then decide (k ∈ [1, 3, 4, 5, 6, 7, 8]) else if l = 10 then decide (k ∈ [2, 3, 4]) else if l = 11 then decide (k ∈ [2, 3]) else if l = 12 then decide (k ∈ [0]) else if l = 111 then true else if l = 112 then true else if l = 115 then true else if l = 120 then true else if l = 200 then true else false
def lbG (l k : Nat) : Nat := if l = 0 then (if k = 0 then 101 else 0) else if l = 2 then (if k = 0 then 1 else 0) else if l = 3 then (if k = 0 then 120 else if k = 1 then 120 else 0) else if l = 4 then (if k = 0 then 115 else if k = 3 then 100 else if k = 4 then 100 else if k = 5 then 100 else if k = 6 then 101 else if k = 8 then 101 else if k = 11 then 200 else if k = 12 then 100 else if k = 13 then 103 else 0) else if l = 5 then (if k = 0 then 101 else if k = 1 then 100 else if k = 2 then 100 else 0) else if l = 7 then (if k = 1 then 11 else if k = 2 then 10 else if k = 3 then 111 else if k = 4 then 1 else 0) else if l = 8 then (if k = 2 then 101 else 0) else if l = 9 then (if k = 1 then 11 else if k = 3 then 120 else if k = 4 then 112 else if k = 5 then 100 else if k = 6 then 111 else if k = 7 then 111 else if k = 8 then 111 else 0) else if l = 10 then (if k = 2 then 1 else if k = 3 then 1 else if k = 4 then 1 else 0) else if l = 11 then (if k = 2 then 1 else if k = 3 then 101 else 0) else if l = 12 then (if k = 0 then 102 else 0) else if l = 111 then 1 else if l = 112 then 2 else if l = 115 then 5 else if l = 120 then 10 else if l = 200 then 101 else 0
def un1 (l : Nat) : Bool := decide (l ∈ [3, 6, 7, 8, 9, 12, 112])
def un2 (l : Nat) : Bool := decide (l ∈ [1, 2, 4, 5, 10, 11, 111, 115, 120])
def SNG : List Nat := [14, 41, 42, 44, 60, 61, 62, 63, 64, 65, 66, 67, 68, 69, 70, 71, 74, 80, 81, 82, 83, 84, 85, 86, 87, 88, 89, 90, 91, 92, 93, 94, 95]
def un3 (l q : Nat) : Bool := decide (l ∈ [4, 5, 11, 111, 115, 120]) || (decide (l = 1) && decide (q ∈ SNG))
/-- what holds of each thing by itself -/
def SA (σ : Sg) (gq ci gr nu : Nat → Nat) : Prop :=
  (∀ a, gr a ≠ 0 → kO σ a (if gr a = 9 then 101 else 100)) ∧
  (∀ a ∈ gD σ, ∀ k, lbLo (labN σ gr a) k ≤ gI σ a k ∧ gI σ a k ≤ lbHi nu (labN σ gr a) k) ∧
  (∀ a ∈ gD σ, ∀ k, lbN (gk σ a) k (gn σ a) = true → gP σ a k ≠ none) ∧
  (∀ a ∈ gD σ, ∀ k b, gP σ a k = some b → lbT nu (gk σ a) (gq a) (ci a) k (gq b) (ci b) (gn σ b) (gr b) ∧ (lbX (gk σ a) k = true → kO σ b (lbG (gk σ a) k))) ∧
  (∀ a ∈ gD σ, ∀ b ∈ gD σ, gk σ a = gk σ b → un1 (gk σ a) = true → a = b) ∧
  (∀ a ∈ gD σ, ∀ b ∈ gD σ, gk σ a = gk σ b → un2 (gk σ a) = true → gq a = gq b → (ci a = ci b ∨ un3 (gk σ a) (gq a) = true) → a = b)
section IVS
variable {σ σ' : Sg} {gq ci gr nu : Nat → Nat} {a b : Nat}
theorem labO {l : Nat} (ha : kO σ a l) (hl : l ≠ 100) : labN σ gr a = l := by unfold labN; rw [ha.2, if_neg hl]
theorem labI (ha : kO σ a 100) : labN σ gr a = 130 + gr a := by unfold labN; rw [ha.2, if_pos rfl]

theorem I_0_3 (h : SA σ gq ci gr nu) (ha : kO σ a 0) : -1 ≤ gI σ a 3 ∧ gI σ a 3 ≤ (nu 1 : Int) - 1 := by
  have q := h.2.1 a ha.1 3; rw [labO ha (by decide)] at q; exact q
theorem I_0_4 (h : SA σ gq ci gr nu) (ha : kO σ a 0) : -1 ≤ gI σ a 4 ∧ gI σ a 4 ≤ (nu 2 : Int) - 1 := by
  have q := h.2.1 a ha.1 4; rw [labO ha (by decide)] at q; exact q
theorem I_2_5 (h : SA σ gq ci gr nu) (ha : kO σ a 2) : 0 ≤ gI σ a 5 ∧ gI σ a 5 ≤ 1 := by
  have q := h.2.1 a ha.1 5; rw [labO ha (by decide)] at q; exact q
theorem I_3_5 (h : SA σ gq ci gr nu) (ha : kO σ a 3) : 0 ≤ gI σ a 5 ∧ gI σ a 5 ≤ 4 := by
  have q := h.2.1 a ha.1 5; rw [labO ha (by decide)] at q; exact q
theorem I_3_7 (h : SA σ gq ci gr nu) (ha : kO σ a 3) : 0 ≤ gI σ a 7 ∧ gI σ a 7 ≤ 4000 := by
  have q := h.2.1 a ha.1 7; rw [labO ha (by decide)] at q; exact q
theorem I_3_9 (h : SA σ gq ci gr nu) (ha : kO σ a 3) : 0 ≤ gI σ a 9 ∧ gI σ a 9 ≤ 1 := by
  have q := h.2.1 a ha.1 9; rw [labO ha (by decide)] at q; exact q
theorem I_4_1 (h : SA σ gq ci gr nu) (ha : kO σ a 4) : 0 ≤ gI σ a 1 ∧ gI σ a 1 ≤ 16 := by
  have q := h.2.1 a ha.1 1; rw [labO ha (by decide)] at q; exact q
theorem I_4_2 (h : SA σ gq ci gr nu) (ha : kO σ a 4) : 0 ≤ gI σ a 2 ∧ gI σ a 2 ≤ 4 := by
  have q := h.2.1 a ha.1 2; rw [labO ha (by decide)] at q; exact q
theorem I_4_7 (h : SA σ gq ci gr nu) (ha : kO σ a 4) : 0 ≤ gI σ a 7 ∧ gI σ a 7 ≤ 6200 := by
  have q := h.2.1 a ha.1 7; rw [labO ha (by decide)] at q; exact q
theorem I_4_9 (h : SA σ gq ci gr nu) (ha : kO σ a 4) : 0 ≤ gI σ a 9 ∧ gI σ a 9 ≤ 64 := by
  have q := h.2.1 a ha.1 9; rw [labO ha (by decide)] at q; exact q
theorem I_4_10 (h : SA σ gq ci gr nu) (ha : kO σ a 4) : 0 ≤ gI σ a 10 ∧ gI σ a 10 ≤ 1 := by
  have q := h.2.1 a ha.1 10; rw [labO ha (by decide)] at q; exact q
theorem I_5_3 (h : SA σ gq ci gr nu) (ha : kO σ a 5) : 0 ≤ gI σ a 3 ∧ gI σ a 3 ≤ 8 := by
  have q := h.2.1 a ha.1 3; rw [labO ha (by decide)] at q; exact q
theorem I_5_4 (h : SA σ gq ci gr nu) (ha : kO σ a 5) : 0 ≤ gI σ a 4 ∧ gI σ a 4 ≤ 8 := by
  have q := h.2.1 a ha.1 4; rw [labO ha (by decide)] at q; exact q
theorem I_5_6 (h : SA σ gq ci gr nu) (ha : kO σ a 5) : 0 ≤ gI σ a 6 ∧ gI σ a 6 ≤ 11 := by
  have q := h.2.1 a ha.1 6; rw [labO ha (by decide)] at q; exact q
theorem I_5_7 (h : SA σ gq ci gr nu) (ha : kO σ a 5) : -1 ≤ gI σ a 7 ∧ gI σ a 7 ≤ 15 := by
  have q := h.2.1 a ha.1 7; rw [labO ha (by decide)] at q; exact q
theorem I_5_8 (h : SA σ gq ci gr nu) (ha : kO σ a 5) : -1 ≤ gI σ a 8 ∧ gI σ a 8 ≤ 15 := by
  have q := h.2.1 a ha.1 8; rw [labO ha (by decide)] at q; exact q
theorem I_5_9 (h : SA σ gq ci gr nu) (ha : kO σ a 5) : 0 ≤ gI σ a 9 ∧ gI σ a 9 ≤ 9 := by
  have q := h.2.1 a ha.1 9; rw [labO ha (by decide)] at q; exact q
theorem I_5_10 (h : SA σ gq ci gr nu) (ha : kO σ a 5) : 0 ≤ gI σ a 10 ∧ gI σ a 10 ≤ 1000 := by
  have q := h.2.1 a ha.1 10; rw [labO ha (by decide)] at q; exact q
theorem I_5_11 (h : SA σ gq ci gr nu) (ha : kO σ a 5) : 0 ≤ gI σ a 11 ∧ gI σ a 11 ≤ 1000 := by
  have q := h.2.1 a ha.1 11; rw [labO ha (by decide)] at q; exact q
theorem I_5_12 (h : SA σ gq ci gr nu) (ha : kO σ a 5) : 0 ≤ gI σ a 12 ∧ gI σ a 12 ≤ 1000 := by
  have q := h.2.1 a ha.1 12; rw [labO ha (by decide)] at q; exact q
theorem I_5_13 (h : SA σ gq ci gr nu) (ha : kO σ a 5) : 0 ≤ gI σ a 13 ∧ gI σ a 13 ≤ 7 := by
  have q := h.2.1 a ha.1 13; rw [labO ha (by decide)] at q; exact q
theorem I_5_14 (h : SA σ gq ci gr nu) (ha : kO σ a 5) : 0 ≤ gI σ a 14 ∧ gI σ a 14 ≤ 7 := by
  have q := h.2.1 a ha.1 14; rw [labO ha (by decide)] at q; exact q
theorem I_5_15 (h : SA σ gq ci gr nu) (ha : kO σ a 5) : -1000 ≤ gI σ a 15 ∧ gI σ a 15 ≤ 1000 := by
  have q := h.2.1 a ha.1 15; rw [labO ha (by decide)] at q; exact q
theorem I_5_16 (h : SA σ gq ci gr nu) (ha : kO σ a 5) : -1000 ≤ gI σ a 16 ∧ gI σ a 16 ≤ 1000 := by
  have q := h.2.1 a ha.1 16; rw [labO ha (by decide)] at q; exact q
theorem I_6_1 (h : SA σ gq ci gr nu) (ha : kO σ a 6) : 0 ≤ gI σ a 1 ∧ gI σ a 1 ≤ 1500 := by
  have q := h.2.1 a ha.1 1; rw [labO ha (by decide)] at q; exact q
theorem I_6_2 (h : SA σ gq ci gr nu) (ha : kO σ a 6) : 0 ≤ gI σ a 2 ∧ gI σ a 2 ≤ 1500 := by
  have q := h.2.1 a ha.1 2; rw [labO ha (by decide)] at q; exact q
theorem I_6_5 (h : SA σ gq ci gr nu) (ha : kO σ a 6) : 0 ≤ gI σ a 5 ∧ gI σ a 5 ≤ 1500 := by
  have q := h.2.1 a ha.1 5; rw [labO ha (by decide)] at q; exact q
theorem I_7_6 (h : SA σ gq ci gr nu) (ha : kO σ a 7) : 0 ≤ gI σ a 6 ∧ gI σ a 6 ≤ 4000 := by
  have q := h.2.1 a ha.1 6; rw [labO ha (by decide)] at q; exact q
theorem I_8_1 (h : SA σ gq ci gr nu) (ha : kO σ a 8) : 0 ≤ gI σ a 1 ∧ gI σ a 1 ≤ (nu 2 : Int) := by
  have q := h.2.1 a ha.1 1; rw [labO ha (by decide)] at q; exact q
theorem I_9_10 (h : SA σ gq ci gr nu) (ha : kO σ a 9) : 0 ≤ gI σ a 10 ∧ gI σ a 10 ≤ (nu 0 : Int) := by
  have q := h.2.1 a ha.1 10; rw [labO ha (by decide)] at q; exact q
theorem I_9_11 (h : SA σ gq ci gr nu) (ha : kO σ a 9) : 0 ≤ gI σ a 11 ∧ gI σ a 11 ≤ (nu 1 : Int) := by
  have q := h.2.1 a ha.1 11; rw [labO ha (by decide)] at q; exact q
theorem I_9_12 (h : SA σ gq ci gr nu) (ha : kO σ a 9) : 0 ≤ gI σ a 12 ∧ gI σ a 12 ≤ 4 := by
  have q := h.2.1 a ha.1 12; rw [labO ha (by decide)] at q; exact q
theorem I_9_13 (h : SA σ gq ci gr nu) (ha : kO σ a 9) : 0 ≤ gI σ a 13 ∧ gI σ a 13 ≤ 8 := by
  have q := h.2.1 a ha.1 13; rw [labO ha (by decide)] at q; exact q
theorem I_9_14 (h : SA σ gq ci gr nu) (ha : kO σ a 9) : 0 ≤ gI σ a 14 ∧ gI σ a 14 ≤ 4000 := by
  have q := h.2.1 a ha.1 14; rw [labO ha (by decide)] at q; exact q
theorem I_9_16 (h : SA σ gq ci gr nu) (ha : kO σ a 9) : 0 ≤ gI σ a 16 ∧ gI σ a 16 ≤ 1 := by
  have q := h.2.1 a ha.1 16; rw [labO ha (by decide)] at q; exact q
theorem I_10_0 (h : SA σ gq ci gr nu) (ha : kO σ a 10) : 0 ≤ gI σ a 0 ∧ gI σ a 0 ≤ 15 := by
  have q := h.2.1 a ha.1 0; rw [labO ha (by decide)] at q; exact q
theorem I_10_1 (h : SA σ gq ci gr nu) (ha : kO σ a 10) : 0 ≤ gI σ a 1 ∧ gI σ a 1 ≤ 3 := by
  have q := h.2.1 a ha.1 1; rw [labO ha (by decide)] at q; exact q
theorem I_10_6 (h : SA σ gq ci gr nu) (ha : kO σ a 10) : 0 ≤ gI σ a 6 ∧ gI σ a 6 ≤ 64 := by
  have q := h.2.1 a ha.1 6; rw [labO ha (by decide)] at q; exact q
theorem I_10_10 (h : SA σ gq ci gr nu) (ha : kO σ a 10) : 0 ≤ gI σ a 10 ∧ gI σ a 10 ≤ 1 := by
  have q := h.2.1 a ha.1 10; rw [labO ha (by decide)] at q; exact q
theorem I_10_11 (h : SA σ gq ci gr nu) (ha : kO σ a 10) : 0 ≤ gI σ a 11 ∧ gI σ a 11 ≤ 512 := by
  have q := h.2.1 a ha.1 11; rw [labO ha (by decide)] at q; exact q
theorem I_10_12 (h : SA σ gq ci gr nu) (ha : kO σ a 10) : 0 ≤ gI σ a 12 ∧ gI σ a 12 ≤ 512 := by
  have q := h.2.1 a ha.1 12; rw [labO ha (by decide)] at q; exact q
theorem I_10_13 (h : SA σ gq ci gr nu) (ha : kO σ a 10) : 0 ≤ gI σ a 13 ∧ gI σ a 13 ≤ 511 := by
  have q := h.2.1 a ha.1 13; rw [labO ha (by decide)] at q; exact q
theorem I_11_1 (h : SA σ gq ci gr nu) (ha : kO σ a 11) : 4000 ≤ gI σ a 1 ∧ gI σ a 1 ≤ 4001 := by
  have q := h.2.1 a ha.1 1; rw [labO ha (by decide)] at q; exact q
theorem I_11_4 (h : SA σ gq ci gr nu) (ha : kO σ a 11) : 0 ≤ gI σ a 4 ∧ gI σ a 4 ≤ 4001 := by
  have q := h.2.1 a ha.1 4; rw [labO ha (by decide)] at q; exact q
theorem I_12_1 (h : SA σ gq ci gr nu) (ha : kO σ a 12) : 0 ≤ gI σ a 1 ∧ gI σ a 1 ≤ 1500 := by
  have q := h.2.1 a ha.1 1; rw [labO ha (by decide)] at q; exact q
theorem I_131 (h : SA σ gq ci gr nu) (ha : kO σ a 100) (hr : gr a = 1) (k : Nat) : 0 ≤ gI σ a k ∧ gI σ a k ≤ 15 := by
  have q := h.2.1 a ha.1 k; rw [labI ha, hr] at q; exact q
theorem I_132 (h : SA σ gq ci gr nu) (ha : kO σ a 100) (hr : gr a = 2) (k : Nat) : 0 ≤ gI σ a k ∧ gI σ a k ≤ 64 := by
  have q := h.2.1 a ha.1 k; rw [labI ha, hr] at q; exact q
theorem I_133 (h : SA σ gq ci gr nu) (ha : kO σ a 100) (hr : gr a = 3) (k : Nat) : 0 ≤ gI σ a k ∧ gI σ a k ≤ 64 := by
  have q := h.2.1 a ha.1 k; rw [labI ha, hr] at q; exact q
theorem P_0_0 (h : SA σ gq ci gr nu) (ha : kO σ a 0) : ∃ b, gP σ a 0 = some b ∧ gn σ b = 8 ∧ gr b = 0 := by
  cases e : gP σ a 0 with
  | none => exact absurd e (h.2.2.1 a ha.1 0 (by rw [ha.2]; rfl))
  | some b =>
    have q := h.2.2.2.1 a ha.1 0 b e; rw [ha.2] at q; exact ⟨b, rfl, q.1⟩
theorem P_2_0 (h : SA σ gq ci gr nu) (ha : kO σ a 2) : ∃ b, gP σ a 0 = some b ∧ gq b = 50 ∧ ci b = ci a := by
  cases e : gP σ a 0 with
  | none => exact absurd e (h.2.2.1 a ha.1 0 (by rw [ha.2]; rfl))
  | some b =>
    have q := h.2.2.2.1 a ha.1 0 b e; rw [ha.2] at q; exact ⟨b, rfl, q.1⟩
theorem P_3_0 (h : SA σ gq ci gr nu) (ha : kO σ a 3) : ∃ b, gP σ a 0 = some b ∧ gn σ b = 64 ∧ (gq b = 2 ∨ gq b = 3) := by
  cases e : gP σ a 0 with
  | none => exact absurd e (h.2.2.1 a ha.1 0 (by rw [ha.2]; rfl))
  | some b =>
    have q := h.2.2.2.1 a ha.1 0 b e; rw [ha.2] at q; exact ⟨b, rfl, q.1⟩
theorem P_3_1 (h : SA σ gq ci gr nu) (ha : kO σ a 3) : ∃ b, gP σ a 1 = some b ∧ gn σ b = 64 ∧ (gq b = 2 ∨ gq b = 3) := by
  cases e : gP σ a 1 with
  | none => exact absurd e (h.2.2.1 a ha.1 1 (by rw [ha.2]; rfl))
  | some b =>
    have q := h.2.2.2.1 a ha.1 1 b e; rw [ha.2] at q; exact ⟨b, rfl, q.1⟩
theorem P_4_0 (h : SA σ gq ci gr nu) (ha : kO σ a 4) : ∃ b, gP σ a 0 = some b ∧ gn σ b = 16 ∧ gq b = 100 + gq a := by
  cases e : gP σ a 0 with
  | none => exact absurd e (h.2.2.1 a ha.1 0 (by rw [ha.2]; rfl))
  | some b =>
    have q := h.2.2.2.1 a ha.1 0 b e; rw [ha.2] at q; exact ⟨b, rfl, q.1⟩
theorem P_4_3 (h : SA σ gq ci gr nu) (ha : kO σ a 4) : ∃ b, gP σ a 3 = some b ∧ gn σ b = 4 ∧ gr b = 1 ∧ gq b = gq a := by
  cases e : gP σ a 3 with
  | none => exact absurd e (h.2.2.1 a ha.1 3 (by rw [ha.2]; rfl))
  | some b =>
    have q := h.2.2.2.1 a ha.1 3 b e; rw [ha.2] at q; exact ⟨b, rfl, q.1⟩
theorem P_4_4 (h : SA σ gq ci gr nu) (ha : kO σ a 4) : ∃ b, gP σ a 4 = some b ∧ gn σ b = 4 ∧ gr b = 0 := by
  cases e : gP σ a 4 with
  | none => exact absurd e (h.2.2.1 a ha.1 4 (by rw [ha.2]; rfl))
  | some b =>
    have q := h.2.2.2.1 a ha.1 4 b e; rw [ha.2] at q; exact ⟨b, rfl, q.1⟩
theorem P_4_5 (h : SA σ gq ci gr nu) (ha : kO σ a 4) : ∃ b, gP σ a 5 = some b ∧ gr b = 0 ∧ 64 ≤ gn σ b ∧ gn σ b ≤ 12400 := by
  cases e : gP σ a 5 with
  | none => exact absurd e (h.2.2.1 a ha.1 5 (by rw [ha.2]; rfl))
  | some b =>
    have q := h.2.2.2.1 a ha.1 5 b e; rw [ha.2] at q; exact ⟨b, rfl, q.1⟩
theorem P_4_6 (h : SA σ gq ci gr nu) (ha : kO σ a 4) : ∃ b, gP σ a 6 = some b ∧ gr b = 0 := by
  cases e : gP σ a 6 with
  | none => exact absurd e (h.2.2.1 a ha.1 6 (by rw [ha.2]; rfl))
  | some b =>
    have q := h.2.2.2.1 a ha.1 6 b e; rw [ha.2] at q; exact ⟨b, rfl, q.1⟩
theorem P_4_8 (h : SA σ gq ci gr nu) (ha : kO σ a 4) : ∃ b, gP σ a 8 = some b ∧ gn σ b = 64 ∧ gr b = 0 := by
  cases e : gP σ a 8 with
  | none => exact absurd e (h.2.2.1 a ha.1 8 (by rw [ha.2]; rfl))
  | some b =>
    have q := h.2.2.2.1 a ha.1 8 b e; rw [ha.2] at q; exact ⟨b, rfl, q.1⟩
theorem P_4_11 (h : SA σ gq ci gr nu) (ha : kO σ a 4) : ∃ b, gP σ a 11 = some b ∧ gn σ b = 4 := by
  cases e : gP σ a 11 with
  | none => exact absurd e (h.2.2.1 a ha.1 11 (by rw [ha.2]; rfl))
  | some b =>
    have q := h.2.2.2.1 a ha.1 11 b e; rw [ha.2] at q; exact ⟨b, rfl, q.1⟩
theorem P_4_12 (h : SA σ gq ci gr nu) (ha : kO σ a 4) : ∃ b, gP σ a 12 = some b ∧ gn σ b = 4 ∧ gr b = 2 := by
  cases e : gP σ a 12 with
  | none => exact absurd e (h.2.2.1 a ha.1 12 (by rw [ha.2]; rfl))
  | some b =>
    have q := h.2.2.2.1 a ha.1 12 b e; rw [ha.2] at q; exact ⟨b, rfl, q.1⟩
theorem P_4_13 (h : SA σ gq ci gr nu) (ha : kO σ a 4) : ∃ b, gP σ a 13 = some b ∧ gn σ b = 4 := by
  cases e : gP σ a 13 with
  | none => exact absurd e (h.2.2.1 a ha.1 13 (by rw [ha.2]; rfl))
  | some b =>
    have q := h.2.2.2.1 a ha.1 13 b e; rw [ha.2] at q; exact ⟨b, rfl, q.1⟩
theorem P_5_0 (h : SA σ gq ci gr nu) (ha : kO σ a 5) : ∃ b, gP σ a 0 = some b ∧ gn σ b = 8 ∧ gr b = 0 := by
  cases e : gP σ a 0 with
  | none => exact absurd e (h.2.2.1 a ha.1 0 (by rw [ha.2]; rfl))
  | some b =>
    have q := h.2.2.2.1 a ha.1 0 b e; rw [ha.2] at q; exact ⟨b, rfl, q.1⟩
theorem P_5_1 (h : SA σ gq ci gr nu) (ha : kO σ a 5) : ∃ b, gP σ a 1 = some b ∧ gn σ b = 8 ∧ gr b = 0 := by
  cases e : gP σ a 1 with
  | none => exact absurd e (h.2.2.1 a ha.1 1 (by rw [ha.2]; rfl))
  | some b =>
    have q := h.2.2.2.1 a ha.1 1 b e; rw [ha.2] at q; exact ⟨b, rfl, q.1⟩
theorem P_5_2 (h : SA σ gq ci gr nu) (ha : kO σ a 5) : ∃ b, gP σ a 2 = some b ∧ gn σ b = 4 ∧ gr b = 0 := by
  cases e : gP σ a 2 with
  | none => exact absurd e (h.2.2.1 a ha.1 2 (by rw [ha.2]; rfl))
  | some b =>
    have q := h.2.2.2.1 a ha.1 2 b e; rw [ha.2] at q; exact ⟨b, rfl, q.1⟩
theorem P_7_0 (h : SA σ gq ci gr nu) (ha : kO σ a 7) : ∃ b, gP σ a 0 = some b := by
  cases e : gP σ a 0 with
  | none => exact absurd e (h.2.2.1 a ha.1 0 (by rw [ha.2]; rfl))
  | some b => exact ⟨b, rfl⟩
theorem P_7_1 (h : SA σ gq ci gr nu) (ha : kO σ a 7) : ∃ b, gP σ a 1 = some b ∧ gq b = 4 := by
  cases e : gP σ a 1 with
  | none => exact absurd e (h.2.2.1 a ha.1 1 (by rw [ha.2]; rfl))
  | some b =>
    have q := h.2.2.2.1 a ha.1 1 b e; rw [ha.2] at q; exact ⟨b, rfl, q.1⟩
theorem P_7_2 (h : SA σ gq ci gr nu) (ha : kO σ a 7) : ∃ b, gP σ a 2 = some b ∧ gq b = 4 ∧ ci b = 0 := by
  cases e : gP σ a 2 with
  | none => exact absurd e (h.2.2.1 a ha.1 2 (by rw [ha.2]; rfl))
  | some b =>
    have q := h.2.2.2.1 a ha.1 2 b e; rw [ha.2] at q; exact ⟨b, rfl, q.1⟩
theorem P_7_3 (h : SA σ gq ci gr nu) (ha : kO σ a 7) : ∃ b, gP σ a 3 = some b ∧ gn σ b = 16 ∧ gq b = 146 := by
  cases e : gP σ a 3 with
  | none => exact absurd e (h.2.2.1 a ha.1 3 (by rw [ha.2]; rfl))
  | some b =>
    have q := h.2.2.2.1 a ha.1 3 b e; rw [ha.2] at q; exact ⟨b, rfl, q.1⟩
theorem P_7_4 (h : SA σ gq ci gr nu) (ha : kO σ a 7) : ∃ b, gP σ a 4 = some b ∧ gq b = 74 ∧ ci b = 0 := by
  cases e : gP σ a 4 with
  | none => exact absurd e (h.2.2.1 a ha.1 4 (by rw [ha.2]; rfl))
  | some b =>
    have q := h.2.2.2.1 a ha.1 4 b e; rw [ha.2] at q; exact ⟨b, rfl, q.1⟩
theorem P_8_2 (h : SA σ gq ci gr nu) (ha : kO σ a 8) : ∃ b, gP σ a 2 = some b ∧ 4 * nu 2 ≤ gn σ b ∧ 256 ≤ gn σ b ∧ gn σ b ≤ 240100 ∧ gr b = 0 := by
  cases e : gP σ a 2 with
  | none => exact absurd e (h.2.2.1 a ha.1 2 (by rw [ha.2]; rfl))
  | some b =>
    have q := h.2.2.2.1 a ha.1 2 b e; rw [ha.2] at q; exact ⟨b, rfl, q.1⟩
theorem P_9_0 (h : SA σ gq ci gr nu) (ha : kO σ a 9) : ∃ b, gP σ a 0 = some b := by
  cases e : gP σ a 0 with
  | none => exact absurd e (h.2.2.1 a ha.1 0 (by rw [ha.2]; rfl))
  | some b => exact ⟨b, rfl⟩
theorem P_9_1 (h : SA σ gq ci gr nu) (ha : kO σ a 9) : ∃ b, gP σ a 1 = some b ∧ gq b = 1 := by
  cases e : gP σ a 1 with
  | none => exact absurd e (h.2.2.1 a ha.1 1 (by rw [ha.2]; rfl))
  | some b =>
    have q := h.2.2.2.1 a ha.1 1 b e; rw [ha.2] at q; exact ⟨b, rfl, q.1⟩
theorem P_9_2 (h : SA σ gq ci gr nu) (ha : kO σ a 9) : ∃ b, gP σ a 2 = some b := by
  cases e : gP σ a 2 with
  | none => exact absurd e (h.2.2.1 a ha.1 2 (by rw [ha.2]; rfl))
  | some b => exact ⟨b, rfl⟩
theorem P_9_3 (h : SA σ gq ci gr nu) (ha : kO σ a 9) : ∃ b, gP σ a 3 = some b ∧ gn σ b = 64 ∧ gq b = 1 := by
  cases e : gP σ a 3 with
  | none => exact absurd e (h.2.2.1 a ha.1 3 (by rw [ha.2]; rfl))
  | some b =>
    have q := h.2.2.2.1 a ha.1 3 b e; rw [ha.2] at q; exact ⟨b, rfl, q.1⟩
theorem P_9_4 (h : SA σ gq ci gr nu) (ha : kO σ a 9) : ∃ b, gP σ a 4 = some b ∧ gn σ b = 512 := by
  cases e : gP σ a 4 with
  | none => exact absurd e (h.2.2.1 a ha.1 4 (by rw [ha.2]; rfl))
  | some b =>
    have q := h.2.2.2.1 a ha.1 4 b e; rw [ha.2] at q; exact ⟨b, rfl, q.1⟩
theorem P_9_5 (h : SA σ gq ci gr nu) (ha : kO σ a 9) : ∃ b, gP σ a 5 = some b ∧ gn σ b = 17 ∧ gr b = 3 := by
  cases e : gP σ a 5 with
  | none => exact absurd e (h.2.2.1 a ha.1 5 (by rw [ha.2]; rfl))
  | some b =>
    have q := h.2.2.2.1 a ha.1 5 b e; rw [ha.2] at q; exact ⟨b, rfl, q.1⟩
theorem P_9_6 (h : SA σ gq ci gr nu) (ha : kO σ a 9) : ∃ b, gP σ a 6 = some b ∧ gn σ b = 4 ∧ gq b = 151 := by
  cases e : gP σ a 6 with
  | none => exact absurd e (h.2.2.1 a ha.1 6 (by rw [ha.2]; rfl))
  | some b =>
    have q := h.2.2.2.1 a ha.1 6 b e; rw [ha.2] at q; exact ⟨b, rfl, q.1⟩
theorem P_9_7 (h : SA σ gq ci gr nu) (ha : kO σ a 9) : ∃ b, gP σ a 7 = some b ∧ gn σ b = 4 ∧ gq b = 152 := by
  cases e : gP σ a 7 with
  | none => exact absurd e (h.2.2.1 a ha.1 7 (by rw [ha.2]; rfl))
  | some b =>
    have q := h.2.2.2.1 a ha.1 7 b e; rw [ha.2] at q; exact ⟨b, rfl, q.1⟩
theorem P_9_8 (h : SA σ gq ci gr nu) (ha : kO σ a 9) : ∃ b, gP σ a 8 = some b ∧ gn σ b = 4 ∧ gq b = 153 := by
  cases e : gP σ a 8 with
  | none => exact absurd e (h.2.2.1 a ha.1 8 (by rw [ha.2]; rfl))
  | some b =>
    have q := h.2.2.2.1 a ha.1 8 b e; rw [ha.2] at q; exact ⟨b, rfl, q.1⟩
theorem P_10_2 (h : SA σ gq ci gr nu) (ha : kO σ a 10) : ∃ b, gP σ a 2 = some b ∧ gq b = 10 * gq a + 1 ∧ ci b = ci a := by
  cases e : gP σ a 2 with
  | none => exact absurd e (h.2.2.1 a ha.1 2 (by rw [ha.2]; rfl))
  | some b =>
    have q := h.2.2.2.1 a ha.1 2 b e; rw [ha.2] at q; exact ⟨b, rfl, q.1⟩
theorem P_10_3 (h : SA σ gq ci gr nu) (ha : kO σ a 10) : ∃ b, gP σ a 3 = some b ∧ gq b = 10 * gq a + 2 ∧ ci b = ci a := by
  cases e : gP σ a 3 with
  | none => exact absurd e (h.2.2.1 a ha.1 3 (by rw [ha.2]; rfl))
  | some b =>
    have q := h.2.2.2.1 a ha.1 3 b e; rw [ha.2] at q; exact ⟨b, rfl, q.1⟩
theorem P_10_4 (h : SA σ gq ci gr nu) (ha : kO σ a 10) : ∃ b, gP σ a 4 = some b ∧ gq b = 10 * gq a + 3 ∧ ci b = ci a := by
  cases e : gP σ a 4 with
  | none => exact absurd e (h.2.2.1 a ha.1 4 (by rw [ha.2]; rfl))
  | some b =>
    have q := h.2.2.2.1 a ha.1 4 b e; rw [ha.2] at q; exact ⟨b, rfl, q.1⟩
theorem P_11_0 (h : SA σ gq ci gr nu) (ha : kO σ a 11) : ∃ b, gP σ a 0 = some b := by
  cases e : gP σ a 0 with
  | none => exact absurd e (h.2.2.1 a ha.1 0 (by rw [ha.2]; rfl))
  | some b => exact ⟨b, rfl⟩
theorem P_11_2 (h : SA σ gq ci gr nu) (ha : kO σ a 11) : ∃ b, gP σ a 2 = some b ∧ gq b = 10 * gq a + 4 ∧ ci b = 0 := by
  cases e : gP σ a 2 with
  | none => exact absurd e (h.2.2.1 a ha.1 2 (by rw [ha.2]; rfl))
  | some b =>
    have q := h.2.2.2.1 a ha.1 2 b e; rw [ha.2] at q; exact ⟨b, rfl, q.1⟩
theorem P_11_3 (h : SA σ gq ci gr nu) (ha : kO σ a 11) : ∃ b, gP σ a 3 = some b ∧ gn σ b = 4 ∧ gr b = 0 := by
  cases e : gP σ a 3 with
  | none => exact absurd e (h.2.2.1 a ha.1 3 (by rw [ha.2]; rfl))
  | some b =>
    have q := h.2.2.2.1 a ha.1 3 b e; rw [ha.2] at q; exact ⟨b, rfl, q.1⟩
theorem P_12_0 (h : SA σ gq ci gr nu) (ha : kO σ a 12) : ∃ b, gP σ a 0 = some b ∧ gn σ b = 1500 := by
  cases e : gP σ a 0 with
  | none => exact absurd e (h.2.2.1 a ha.1 0 (by rw [ha.2]; rfl))
  | some b =>
    have q := h.2.2.2.1 a ha.1 0 b e; rw [ha.2] at q; exact ⟨b, rfl, q.1⟩
theorem P_12_3 (h : SA σ gq ci gr nu) (ha : kO σ a 12) : ∃ b, gP σ a 3 = some b := by
  cases e : gP σ a 3 with
  | none => exact absurd e (h.2.2.1 a ha.1 3 (by rw [ha.2]; rfl))
  | some b => exact ⟨b, rfl⟩
theorem P_12_4 (h : SA σ gq ci gr nu) (ha : kO σ a 12) : ∃ b, gP σ a 4 = some b := by
  cases e : gP σ a 4 with
  | none => exact absurd e (h.2.2.1 a ha.1 4 (by rw [ha.2]; rfl))
  | some b => exact ⟨b, rfl⟩
theorem P_12_5 (h : SA σ gq ci gr nu) (ha : kO σ a 12) : ∃ b, gP σ a 5 = some b := by
  cases e : gP σ a 5 with
  | none => exact absurd e (h.2.2.1 a ha.1 5 (by rw [ha.2]; rfl))
  | some b => exact ⟨b, rfl⟩
theorem P_12_6 (h : SA σ gq ci gr nu) (ha : kO σ a 12) : ∃ b, gP σ a 6 = some b := by
  cases e : gP σ a 6 with
  | none => exact absurd e (h.2.2.1 a ha.1 6 (by rw [ha.2]; rfl))
  | some b => exact ⟨b, rfl⟩
theorem P_12_7 (h : SA σ gq ci gr nu) (ha : kO σ a 12) : ∃ b, gP σ a 7 = some b := by
  cases e : gP σ a 7 with
  | none => exact absurd e (h.2.2.1 a ha.1 7 (by rw [ha.2]; rfl))
  | some b => exact ⟨b, rfl⟩
theorem P_12_8 (h : SA σ gq ci gr nu) (ha : kO σ a 12) : ∃ b, gP σ a 8 = some b := by
  cases e : gP σ a 8 with
  | none => exact absurd e (h.2.2.1 a ha.1 8 (by rw [ha.2]; rfl))
  | some b => exact ⟨b, rfl⟩
theorem T_0_0 (h : SA σ gq ci gr nu) (ha : kO σ a 0) (e : gP σ a 0 = some b) : gn σ b = 8 ∧ gr b = 0 := by
  have q := h.2.2.2.1 a ha.1 0 b e; rw [ha.2] at q; exact q.1
theorem T_2_0 (h : SA σ gq ci gr nu) (ha : kO σ a 2) (e : gP σ a 0 = some b) : gq b = 50 ∧ ci b = ci a := by
  have q := h.2.2.2.1 a ha.1 0 b e; rw [ha.2] at q; exact q.1
theorem T_3_0 (h : SA σ gq ci gr nu) (ha : kO σ a 3) (e : gP σ a 0 = some b) : gn σ b = 64 ∧ (gq b = 2 ∨ gq b = 3) := by
  have q := h.2.2.2.1 a ha.1 0 b e; rw [ha.2] at q; exact q.1
theorem T_3_1 (h : SA σ gq ci gr nu) (ha : kO σ a 3) (e : gP σ a 1 = some b) : gn σ b = 64 ∧ (gq b = 2 ∨ gq b = 3) := by
  have q := h.2.2.2.1 a ha.1 1 b e; rw [ha.2] at q; exact q.1
theorem T_4_0 (h : SA σ gq ci gr nu) (ha : kO σ a 4) (e : gP σ a 0 = some b) : gn σ b = 16 ∧ gq b = 100 + gq a := by
  have q := h.2.2.2.1 a ha.1 0 b e; rw [ha.2] at q; exact q.1
theorem T_4_3 (h : SA σ gq ci gr nu) (ha : kO σ a 4) (e : gP σ a 3 = some b) : gn σ b = 4 ∧ gr b = 1 ∧ gq b = gq a := by
  have q := h.2.2.2.1 a ha.1 3 b e; rw [ha.2] at q; exact q.1
theorem T_4_4 (h : SA σ gq ci gr nu) (ha : kO σ a 4) (e : gP σ a 4 = some b) : gn σ b = 4 ∧ gr b = 0 := by
  have q := h.2.2.2.1 a ha.1 4 b e; rw [ha.2] at q; exact q.1
theorem T_4_5 (h : SA σ gq ci gr nu) (ha : kO σ a 4) (e : gP σ a 5 = some b) : gr b = 0 ∧ 64 ≤ gn σ b ∧ gn σ b ≤ 12400 := by
  have q := h.2.2.2.1 a ha.1 5 b e; rw [ha.2] at q; exact q.1
theorem T_4_6 (h : SA σ gq ci gr nu) (ha : kO σ a 4) (e : gP σ a 6 = some b) : gr b = 0 := by
  have q := h.2.2.2.1 a ha.1 6 b e; rw [ha.2] at q; exact q.1
theorem T_4_8 (h : SA σ gq ci gr nu) (ha : kO σ a 4) (e : gP σ a 8 = some b) : gn σ b = 64 ∧ gr b = 0 := by
  have q := h.2.2.2.1 a ha.1 8 b e; rw [ha.2] at q; exact q.1
theorem T_4_11 (h : SA σ gq ci gr nu) (ha : kO σ a 4) (e : gP σ a 11 = some b) : gn σ b = 4 := by
  have q := h.2.2.2.1 a ha.1 11 b e; rw [ha.2] at q; exact q.1
theorem T_4_12 (h : SA σ gq ci gr nu) (ha : kO σ a 4) (e : gP σ a 12 = some b) : gn σ b = 4 ∧ gr b = 2 := by
  have q := h.2.2.2.1 a ha.1 12 b e; rw [ha.2] at q; exact q.1
theorem T_4_13 (h : SA σ gq ci gr nu) (ha : kO σ a 4) (e : gP σ a 13 = some b) : gn σ b = 4 := by
  have q := h.2.2.2.1 a ha.1 13 b e; rw [ha.2] at q; exact q.1
theorem T_5_0 (h : SA σ gq ci gr nu) (ha : kO σ a 5) (e : gP σ a 0 = some b) : gn σ b = 8 ∧ gr b = 0 := by
  have q := h.2.2.2.1 a ha.1 0 b e; rw [ha.2] at q; exact q.1
theorem T_5_1 (h : SA σ gq ci gr nu) (ha : kO σ a 5) (e : gP σ a 1 = some b) : gn σ b = 8 ∧ gr b = 0 := by
  have q := h.2.2.2.1 a ha.1 1 b e; rw [ha.2] at q; exact q.1
theorem T_5_2 (h : SA σ gq ci gr nu) (ha : kO σ a 5) (e : gP σ a 2 = some b) : gn σ b = 4 ∧ gr b = 0 := by
  have q := h.2.2.2.1 a ha.1 2 b e; rw [ha.2] at q; exact q.1
theorem T_7_1 (h : SA σ gq ci gr nu) (ha : kO σ a 7) (e : gP σ a 1 = some b) : gq b = 4 := by
  have q := h.2.2.2.1 a ha.1 1 b e; rw [ha.2] at q; exact q.1
theorem T_7_2 (h : SA σ gq ci gr nu) (ha : kO σ a 7) (e : gP σ a 2 = some b) : gq b = 4 ∧ ci b = 0 := by
  have q := h.2.2.2.1 a ha.1 2 b e; rw [ha.2] at q; exact q.1
theorem T_7_3 (h : SA σ gq ci gr nu) (ha : kO σ a 7) (e : gP σ a 3 = some b) : gn σ b = 16 ∧ gq b = 146 := by
  have q := h.2.2.2.1 a ha.1 3 b e; rw [ha.2] at q; exact q.1
theorem T_7_4 (h : SA σ gq ci gr nu) (ha : kO σ a 7) (e : gP σ a 4 = some b) : gq b = 74 ∧ ci b = 0 := by
  have q := h.2.2.2.1 a ha.1 4 b e; rw [ha.2] at q; exact q.1
theorem T_8_2 (h : SA σ gq ci gr nu) (ha : kO σ a 8) (e : gP σ a 2 = some b) : 4 * nu 2 ≤ gn σ b ∧ 256 ≤ gn σ b ∧ gn σ b ≤ 240100 ∧ gr b = 0 := by
  have q := h.2.2.2.1 a ha.1 2 b e; rw [ha.2] at q; exact q.1
theorem T_9_1 (h : SA σ gq ci gr nu) (ha : kO σ a 9) (e : gP σ a 1 = some b) : gq b = 1 := by
  have q := h.2.2.2.1 a ha.1 1 b e; rw [ha.2] at q; exact q.1
theorem T_9_3 (h : SA σ gq ci gr nu) (ha : kO σ a 9) (e : gP σ a 3 = some b) : gn σ b = 64 ∧ gq b = 1 := by
  have q := h.2.2.2.1 a ha.1 3 b e; rw [ha.2] at q; exact q.1
theorem T_9_4 (h : SA σ gq ci gr nu) (ha : kO σ a 9) (e : gP σ a 4 = some b) : gn σ b = 512 := by
  have q := h.2.2.2.1 a ha.1 4 b e; rw [ha.2] at q; exact q.1
theorem T_9_5 (h : SA σ gq ci gr nu) (ha : kO σ a 9) (e : gP σ a 5 = some b) : gn σ b = 17 ∧ gr b = 3 := by
  have q := h.2.2.2.1 a ha.1 5 b e; rw [ha.2] at q; exact q.1
theorem T_9_6 (h : SA σ gq ci gr nu) (ha : kO σ a 9) (e : gP σ a 6 = some b) : gn σ b = 4 ∧ gq b = 151 := by
  have q := h.2.2.2.1 a ha.1 6 b e; rw [ha.2] at q; exact q.1
theorem T_9_7 (h : SA σ gq ci gr nu) (ha : kO σ a 9) (e : gP σ a 7 = some b) : gn σ b = 4 ∧ gq b = 152 := by
  have q := h.2.2.2.1 a ha.1 7 b e; rw [ha.2] at q; exact q.1
theorem T_9_8 (h : SA σ gq ci gr nu) (ha : kO σ a 9) (e : gP σ a 8 = some b) : gn σ b = 4 ∧ gq b = 153 := by
  have q := h.2.2.2.1 a ha.1 8 b e; rw [ha.2] at q; exact q.1
theorem T_10_2 (h : SA σ gq ci gr nu) (ha : kO σ a 10) (e : gP σ a 2 = some b) : gq b = 10 * gq a + 1 ∧ ci b = ci a := by
  have q := h.2.2.2.1 a ha.1 2 b e; rw [ha.2] at q; exact q.1
theorem T_10_3 (h : SA σ gq ci gr nu) (ha : kO σ a 10) (e : gP σ a 3 = some b) : gq b = 10 * gq a + 2 ∧ ci b = ci a := by
  have q := h.2.2.2.1 a ha.1 3 b e; rw [ha.2] at q; exact q.1
theorem T_10_4 (h : SA σ gq ci gr nu) (ha : kO σ a 10) (e : gP σ a 4 = some b) : gq b = 10 * gq a + 3 ∧ ci b = ci a := by
  have q := h.2.2.2.1 a ha.1 4 b e; rw [ha.2] at q; exact q.1
theorem T_11_2 (h : SA σ gq ci gr nu) (ha : kO σ a 11) (e : gP σ a 2 = some b) : gq b = 10 * gq a + 4 ∧ ci b = 0 := by
  have q := h.2.2.2.1 a ha.1 2 b e; rw [ha.2] at q; exact q.1
theorem T_11_3 (h : SA σ gq ci gr nu) (ha : kO σ a 11) (e : gP σ a 3 = some b) : gn σ b = 4 ∧ gr b = 0 := by
  have q := h.2.2.2.1 a ha.1 3 b e; rw [ha.2] at q; exact q.1
theorem T_12_0 (h : SA σ gq ci gr nu) (ha : kO σ a 12) (e : gP σ a 0 = some b) : gn σ b = 1500 := by
  have q := h.2.2.2.1 a ha.1 0 b e; rw [ha.2] at q; exact q.1
theorem T_111 (h : SA σ gq ci gr nu) (ha : kO σ a 111) {k : Nat} (e : gP σ a k = some b) : (gq a = 151 → gq b = 60 + k) ∧ (gq a = 152 → gq b = 64 + k) ∧ (gq a = 153 → gq b = 68 + k) ∧ (gq a = 146 → gq b = 80 + k) ∧ ci b = 0 := by
  have q := h.2.2.2.1 a ha.1 k b e; rw [ha.2] at q; exact q.1
theorem T_112 (h : SA σ gq ci gr nu) (ha : kO σ a 112) {k : Nat} (e : gP σ a k = some b) : ci b = k := by
  have q := h.2.2.2.1 a ha.1 k b e; rw [ha.2] at q; exact q.1
theorem T_115 (h : SA σ gq ci gr nu) (ha : kO σ a 115) {k : Nat} (e : gP σ a k = some b) : gq b = 16 * (gq a - 100) + k := by
  have q := h.2.2.2.1 a ha.1 k b e; rw [ha.2] at q; exact q.1
theorem T_120 (h : SA σ gq ci gr nu) (ha : kO σ a 120) {k : Nat} (e : gP σ a k = some b) : gq b = gq a ∧ ci b = k := by
  have q := h.2.2.2.1 a ha.1 k b e; rw [ha.2] at q; exact q.1
theorem T_200 (h : SA σ gq ci gr nu) (ha : kO σ a 200) {k : Nat} (e : gP σ a k = some b) : gn σ b = 320 ∧ gr b = 9 := by
  have q := h.2.2.2.1 a ha.1 k b e; rw [ha.2] at q; exact q.1
theorem SA.mem (h : SA σ gq ci gr nu) {l k : Nat} (ha : kO σ a l) (hx : lbX l k = true) (e : gP σ a k = some b) : b ∈ gD σ := ((h.2.2.2.1 a ha.1 k b e).2 (by rw [ha.2]; exact hx)).1
theorem SA.kd (h : SA σ gq ci gr nu) {l k g : Nat} (ha : kO σ a l) (hx : lbX l k = true) (e : gP σ a k = some b) (hg : lbG l k = g) : kO σ b g := by
  have q := (h.2.2.2.1 a ha.1 k b e).2 (by rw [ha.2]; exact hx)
  rw [ha.2, hg] at q; exact q
end IVS

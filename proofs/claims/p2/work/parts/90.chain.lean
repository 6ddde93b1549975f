/-! cells in a row: v the first one, nx the next one of each -/
def lk (nx : Nat → Option Nat) : Option Nat → List Nat → Prop
  | v, [] => v = none
  | v, c :: L => v = some c ∧ lk nx (nx c) L
theorem lk_congr {nx nx' : Nat → Option Nat} : ∀ {v : Option Nat} {L : List Nat}, (∀ c ∈ L, nx' c = nx c) → lk nx v L → lk nx' v L
  | _, [], _, h => h
  | _, c :: L, hc, h => ⟨h.1, by rw [hc c (List.mem_cons_self)]; exact lk_congr (fun x hx => hc x (List.mem_cons_of_mem _ hx)) h.2⟩
theorem lk_nil {nx : Nat → Option Nat} {L : List Nat} (h : lk nx none L) : L = [] := by
  cases L with
  | nil => rfl
  | cons c L => exact absurd h.1 (fun e => nomatch e)
theorem lk_some {nx : Nat → Option Nat} {L : List Nat} {c : Nat} (h : lk nx (some c) L) : ∃ T, L = c :: T ∧ lk nx (nx c) T := by
  cases L with
  | nil => exact absurd (show some c = none from h) (fun e => nomatch e)
  | cons d L =>
    have e : c = d := Option.some.inj h.1
    subst e
    exact ⟨L, rfl, h.2⟩
theorem lk_app {nx : Nat → Option Nat} : ∀ {L M : List Nat} {v : Option Nat} {b : Nat}, lk nx v (L ++ b :: M) → lk nx (nx b) M
  | [], _, _, _, h => h.2
  | _ :: _, _, _, _, h => lk_app h.2
/-- one more at the end -/
theorem lk_snoc {nx nx' : Nat → Option Nat} {c : Nat} : ∀ {L : List Nat} {v : Option Nat}, lk nx v L → L.Nodup → c ∉ L → nx' c = none → (∀ x, x ∈ L → some x ≠ L.getLast? → nx' x = nx x) → (∀ x, L.getLast? = some x → nx' x = some c) → lk nx' (if L = [] then some c else v) (L ++ [c])
  | [], _, _, _, _, h1, _, _ => by
    rw [if_pos rfl]
    exact ⟨rfl, h1⟩
  | [b], _, h, _, _, h1, _, h3 => by
    rw [if_neg (by simp)]
    refine ⟨h.1, ?_⟩
    rw [h3 b rfl]
    exact ⟨rfl, h1⟩
  | b :: d :: L, _, h, hn, hc, h1, h2, h3 => by
    rw [if_neg (by simp)]
    refine ⟨h.1, ?_⟩
    have hbd : some b ≠ (b :: d :: L).getLast? := by
      intro e
      rw [List.getLast?_cons_cons] at e
      exact (List.nodup_cons.mp hn).1 (List.mem_of_getLast? e.symm)
    rw [h2 b (List.mem_cons_self) hbd]
    have ih := lk_snoc (nx := nx) (nx' := nx') (c := c) (L := d :: L) h.2 (List.nodup_cons.mp hn).2 (fun q => hc (List.mem_cons_of_mem _ q)) h1 (fun x hx hl => h2 x (List.mem_cons_of_mem _ hx) (by rw [List.getLast?_cons_cons]; exact hl)) (fun x hx => h3 x (by rw [List.getLast?_cons_cons]; exact hx))
    rw [if_neg (by simp)] at ih
    exact ih
/-- one out of the middle: c behind b -/
theorem lk_cut {nx nx' : Nat → Option Nat} {b c : Nat} : ∀ {L M : List Nat} {v : Option Nat}, lk nx v (L ++ b :: c :: M) → (L ++ b :: c :: M).Nodup → nx' b = nx c → (∀ x ∈ L ++ M, nx' x = nx x) → lk nx' v (L ++ b :: M)
  | [], M, _, h, hn, h1, h2 => by
    refine ⟨h.1, ?_⟩
    rw [h1]
    exact lk_congr (fun x hx => h2 x hx) h.2.2
  | d :: L, M, _, h, hn, h1, h2 => by
    refine ⟨h.1, ?_⟩
    rw [h2 d (List.mem_cons_self)]
    exact lk_cut h.2 (List.nodup_cons.mp hn).2 h1 (fun x hx => h2 x (List.mem_cons_of_mem _ hx))
/-- one into the middle: c behind b -/
theorem lk_ins {nx nx' : Nat → Option Nat} {b c : Nat} : ∀ {L M : List Nat} {v : Option Nat}, lk nx v (L ++ b :: M) → (L ++ b :: M).Nodup → c ∉ L ++ b :: M → nx' b = some c → nx' c = nx b → (∀ x ∈ L ++ M, nx' x = nx x) → lk nx' v (L ++ b :: c :: M)
  | [], M, _, h, _, _, h1, h2, h3 => by
    refine ⟨h.1, ?_⟩
    rw [h1]
    refine ⟨rfl, ?_⟩
    rw [h2]
    exact lk_congr (fun x hx => h3 x hx) h.2
  | d :: L, M, _, h, hn, hc, h1, h2, h3 => by
    refine ⟨h.1, ?_⟩
    rw [h3 d (List.mem_cons_self)]
    exact lk_ins h.2 (List.nodup_cons.mp hn).2 (fun q => hc (List.mem_cons_of_mem _ q)) h1 h2 (fun x hx => h3 x (List.mem_cons_of_mem _ hx))
/-- two rows joined -/
theorem lk_join {nx nx' : Nat → Option Nat} {w : Option Nat} {M : List Nat} : ∀ {L : List Nat} {v : Option Nat}, lk nx v L → lk nx' w M → L.Nodup → (∀ x, x ∈ L → some x ≠ L.getLast? → nx' x = nx x) → (∀ x, L.getLast? = some x → nx' x = w) → lk nx' (if L = [] then w else v) (L ++ M)
  | [], _, _, h2, _, _, _ => by rw [if_pos rfl]; exact h2
  | [b], _, h, h2, _, _, h4 => by
    rw [if_neg (by simp)]
    refine ⟨h.1, ?_⟩
    rw [h4 b rfl]
    exact h2
  | b :: d :: L, _, h, h2, hn, h3, h4 => by
    rw [if_neg (by simp)]
    refine ⟨h.1, ?_⟩
    have hbd : some b ≠ (b :: d :: L).getLast? := by
      intro e
      rw [List.getLast?_cons_cons] at e
      exact (List.nodup_cons.mp hn).1 (List.mem_of_getLast? e.symm)
    rw [h3 b (List.mem_cons_self) hbd]
    have ih := lk_join (nx := nx) (nx' := nx') (w := w) (M := M) (L := d :: L) h.2 h2 (List.nodup_cons.mp hn).2 (fun x hx hl => h3 x (List.mem_cons_of_mem _ hx) (by rw [List.getLast?_cons_cons]; exact hl)) (fun x hx => h4 x (by rw [List.getLast?_cons_cons]; exact hx))
    rw [if_neg (by simp)] at ih
    exact ih
/-! the heap of the class: LL: of each chain (and of the pool, at pl) its cells; own: of each cell whose it is -/
def up1 {α : Type} (f : Nat → α) (a : Nat) (v : α) : Nat → α := fun x => if x = a then v else f x
theorem up1_s {α : Type} (f : Nat → α) (a : Nat) (v : α) : up1 f a v a = v := if_pos rfl
theorem up1_n {α : Type} (f : Nat → α) {a x : Nat} (v : α) (h : x ≠ a) : up1 f a v x = f x := if_neg h
def ChI (σ : Sg) (ch : Nat) (L : List Nat) : Prop := lk (fun c => gP σ c 1) (gP σ ch 0) L ∧ gP σ ch 1 = L.getLast? ∧ gI σ ch 2 = (L.length : Int)
/-- a cell has its eight columns -/
def clO (σ : Sg) (c : Nat) : Prop := ∃ col, gP σ c 0 = some col ∧ kO σ col 101 ∧ gn σ col = 8
def HP (σ : Sg) (pl : Nat) (LL : Nat → List Nat) (own : Nat → Nat) : Prop :=
  (∀ ch, kO σ ch 1 → ChI σ ch (LL ch)) ∧ (kO σ pl 8 ∧ lk (fun c => gP σ c 1) (gP σ pl 0) (LL pl)) ∧ (∀ x, ∀ c ∈ LL x, own c = x ∧ kO σ c 0) ∧ (∀ x, (LL x).Nodup) ∧ (∀ x, LL x ≠ [] → x = pl ∨ kO σ x 1) ∧ (∀ c, kO σ c 0 → clO σ c)
/-- only cells, chains and the pool's row have changed; of cells not the columns' place -/
def FrH (pl : Nat) (σ σ' : Sg) : Prop := σ'.1 = σ.1 ∧ gk σ' = gk σ ∧ gn σ' = gn σ ∧ (∀ a k, ¬ kO σ a 0 → ¬ kO σ a 1 → gI σ' a k = gI σ a k) ∧ (∀ a k, ¬ kO σ a 0 → gJ σ' a k = gJ σ a k) ∧ (∀ a k, ¬ (kO σ a 0 ∧ k = 1) → ¬ kO σ a 1 → ¬ (a = pl ∧ k = 0) → gP σ' a k = gP σ a k)
section HPS
variable {σ σ' : Sg} {pl th c : Nat} {LL : Nat → List Nat} {own : Nat → Nat}
/-- two rows have changed, at t and at u (the same, where it is one) -/
theorem HP.mk2 (h : HP σ pl LL own) {t u : Nat} {L M : List Nat} {own' : Nat → Nat} (hd : σ'.1 = σ.1) (hk : gk σ' = gk σ) (hn : gn σ' = gn σ)
    (h1 : ∀ x, x ≠ t → x ≠ u → ∀ d ∈ LL x, gP σ' d 1 = gP σ d 1)
    (h2 : ∀ ch, ch ≠ t → ch ≠ u → kO σ ch 1 → gP σ' ch 0 = gP σ ch 0 ∧ gP σ' ch 1 = gP σ ch 1 ∧ gI σ' ch 2 = gI σ ch 2)
    (h2p : pl ≠ t → pl ≠ u → gP σ' pl 0 = gP σ pl 0)
    (h3 : kO σ t 1 → t ≠ u → ChI σ' t L) (h3u : kO σ u 1 → ChI σ' u M) (h3p : pl = t → pl ≠ u → lk (fun d => gP σ' d 1) (gP σ' pl 0) L) (h3q : pl = u → lk (fun d => gP σ' d 1) (gP σ' pl 0) M)
    (h4 : ∀ d ∈ L, own' d = t ∧ kO σ d 0) (h4u : ∀ d ∈ M, own' d = u ∧ kO σ d 0) (h5 : ∀ x, x ≠ t → x ≠ u → ∀ d ∈ LL x, own' d = x) (h6 : L.Nodup) (h6u : M.Nodup) (h7 : t = pl ∨ kO σ t 1) (h7u : u = pl ∨ kO σ u 1) (h8 : ∀ d, kO σ d 0 → gP σ' d 0 = gP σ d 0) : HP σ' pl (up1 (up1 LL t L) u M) own' := by
  obtain ⟨a1, ⟨a2, a3⟩, a4, a5, a6, a7⟩ := h
  have ko : ∀ a k, kO σ' a k ↔ kO σ a k := fun a k => by unfold kO gD; rw [hd, hk]
  have eu : up1 (up1 LL t L) u M u = M := up1_s _ _ _
  have et : t ≠ u → up1 (up1 LL t L) u M t = L := fun q => by rw [up1_n _ _ q, up1_s]
  have eo : ∀ x, x ≠ t → x ≠ u → up1 (up1 LL t L) u M x = LL x := fun x p q => by rw [up1_n _ _ q, up1_n _ _ p]
  refine ⟨fun ch hch => ?_, ⟨(ko _ _).mpr a2, ?_⟩, fun x d hx => ?_, fun x => ?_, fun x hx => ?_, fun d hd9 => ?_⟩
  · have hc9 := (ko _ _).mp hch
    by_cases q1 : ch = u
    · subst q1; rw [eu]; exact h3u hc9
    · by_cases q2 : ch = t
      · subst q2; rw [et q1]; exact h3 hc9 q1
      · rw [eo ch q2 q1]
        obtain ⟨e1, e2, e3⟩ := h2 ch q2 q1 hc9
        obtain ⟨b1, b2, b3⟩ := a1 ch hc9
        exact ⟨by rw [e1]; exact lk_congr (fun d hd9 => h1 ch q2 q1 d hd9) b1, by rw [e2]; exact b2, by rw [e3]; exact b3⟩
  · by_cases q1 : pl = u
    · have e9 : up1 (up1 LL t L) u M pl = M := by rw [q1]; exact eu
      rw [e9]; exact h3q q1
    · by_cases q2 : pl = t
      · have e9 : up1 (up1 LL t L) u M pl = L := by rw [q2]; exact et (fun e => q1 (q2.trans e))
        rw [e9]; exact h3p q2 q1
      · rw [eo pl q2 q1, h2p q2 q1]
        exact lk_congr (fun d hd9 => h1 pl q2 q1 d hd9) a3
  · by_cases q1 : x = u
    · subst q1; rw [eu] at hx; exact ⟨(h4u d hx).1, (ko _ _).mpr (h4u d hx).2⟩
    · by_cases q2 : x = t
      · subst q2; rw [et q1] at hx; exact ⟨(h4 d hx).1, (ko _ _).mpr (h4 d hx).2⟩
      · rw [eo x q2 q1] at hx; exact ⟨h5 x q2 q1 d hx, (ko _ _).mpr (a4 x d hx).2⟩
  · by_cases q1 : x = u
    · subst q1; rw [eu]; exact h6u
    · by_cases q2 : x = t
      · subst q2; rw [et q1]; exact h6
      · rw [eo x q2 q1]; exact a5 x
  · by_cases q1 : x = u
    · subst q1; exact h7u.imp id (ko _ _).mpr
    · by_cases q2 : x = t
      · subst q2; exact h7.imp id (ko _ _).mpr
      · rw [eo x q2 q1] at hx; exact (a6 x hx).imp id (ko _ _).mpr
  · have hd0 := (ko _ _).mp hd9
    obtain ⟨col, c1, c2, c3⟩ := a7 d hd0
    exact ⟨col, by rw [h8 d hd0]; exact c1, (ko _ _).mpr c2, by rw [hn]; exact c3⟩
/-- a cell in hand comes to the end of a chain -/
theorem s_X1_add {Q : Sg → Unit → Prop} {X : Sg → String → Prop} (h : HP σ pl LL own) (ht : kO σ th 1) (hc : kO σ c 0) (hf : ∀ x, c ∉ LL x) (hG : RG σ) (hs : (LL th).length < 2147483647) (hQ : ∀ σ', HP σ' pl (up1 LL th (LL th ++ [c])) (up1 own c th) → FrH pl σ σ' → RG σ' → gJ σ' = gJ σ → (∀ a k, a ≠ th → gI σ' a k = gI σ a k) → Q σ' ()) : wp_X1_add th (some c) σ Q X := by
  obtain ⟨a1, ⟨a2, a3⟩, a4, a5, a6, a7⟩ := id h
  obtain ⟨b1, b2, b3⟩ := a1 th ht
  have thc : th ≠ c := ht.ne hc (by decide)
  have thp : th ≠ pl := ht.ne a2 (by decide)
  have plc : pl ≠ c := a2.ne hc (by decide)
  unfold wp_X1_add w_X1_add_0
  refine ⟨c, rfl, fun _ => ?_⟩
  intro σ9 e9
  have g1 : gP σ9 th 1 = (LL th).getLast? := by rw [e9, gP_pP, up2_n _ _ (fun q => thc q.1)]; exact b2
  -- what stands at the end, by what the links are then
  have fin : ∀ σ12 : Sg, σ12.1 = σ.1 → gk σ12 = gk σ → gn σ12 = gn σ → gJ σ12 = gJ σ → (∀ a k, a ≠ th → gI σ12 a k = gI σ a k) → gI σ12 th 2 = gI σ th 2 + 1 → (∀ k, k ≠ 2 → gI σ12 th k = gI σ th k) → (∀ a k, ¬ (a = c ∧ k = 1) → ¬ (some a = (LL th).getLast? ∧ k = 1) → ¬ (a = th ∧ k = 1) → ¬ (a = th ∧ k = 0 ∧ LL th = []) → gP σ12 a k = gP σ a k) → gP σ12 c 1 = none → (∀ a, (LL th).getLast? = some a → gP σ12 a 1 = some c) → gP σ12 th 1 = some c → (LL th = [] → gP σ12 th 0 = some c) → Q σ12 () := by
    intro σ12 k1 k2 k3 k4 k5 k6 k6b k7 k8 k9 k10 k11
    have lastc : ∀ a, (LL th).getLast? = some a → a ≠ c := fun a q e => hf th (e ▸ List.mem_of_getLast? q)
    have lst0 : ∀ a, (LL th).getLast? = some a → kO σ a 0 := fun a q => (a4 th a (List.mem_of_getLast? q)).2
    have kd : ∀ a k, a ≠ c → some a ≠ (LL th).getLast? → a ≠ th → gP σ12 a k = gP σ a k := fun a k q1 q2 q3 => k7 a k (fun e => q1 e.1) (fun e => q2 e.1) (fun e => q3 e.1) (fun e => q3 e.1)
    have hp : HP σ12 pl (up1 (up1 LL th (LL th ++ [c])) th (LL th ++ [c])) (up1 own c th) := by
      refine h.mk2 k1 k2 k3 (fun x q1 _ d hd => ?_) (fun ch q1 _ hch => ?_) (fun q1 _ => ?_) (fun _ q => absurd rfl q) (fun _ => ?_) (fun q => absurd q.symm thp) (fun q => absurd q.symm thp) (fun d hd => ?_) (fun d hd => ?_) (fun x q1 _ d hd => ?_) ?_ ?_ (Or.inr ht) (Or.inr ht) (fun d hd => ?_)
      · refine kd d 1 (fun e => hf x (e ▸ hd)) (fun e => ?_) (fun e => (ht.ne (a4 x d hd).2 (by decide)) e.symm)
        have := (a4 x d hd).1; have h9 := (a4 th d (List.mem_of_getLast? e.symm)).1; exact q1 (this.symm.trans h9)
      · have u1 : ch ≠ c := hch.ne hc (by decide)
        have u2 : some ch ≠ (LL th).getLast? := fun e => (hch.ne (lst0 ch e.symm) (by decide)) rfl
        exact ⟨kd ch 0 u1 u2 q1, kd ch 1 u1 u2 q1, k5 ch 2 q1⟩
      · exact kd pl 0 plc (fun e => (a2.ne (lst0 pl e.symm) (by decide)) rfl) (fun e => q1 e)
      · have sn := lk_snoc (nx := fun d => gP σ d 1) (nx' := fun d => gP σ12 d 1) (c := c) b1 (a5 th) (hf th) k8 (fun x hx hl => k7 x 1 (fun e => hf th (e.1 ▸ hx)) (fun e => hl e.1) (fun e => (ht.ne (a4 th x hx).2 (by decide)) e.1.symm) (fun e => (ht.ne (a4 th x hx).2 (by decide)) e.1.symm)) k9
        refine ⟨?_, ?_, ?_⟩
        · by_cases hL : LL th = []
          · rw [if_pos hL] at sn; rw [k11 hL]; exact sn
          · rw [if_neg hL] at sn
            rw [k7 th 0 (fun e => thc e.1) (fun e => by have := e.2; omega) (fun e => by have := e.2; omega) (fun e => hL e.2.2)]
            exact sn
        · rw [k10, List.getLast?_append]; rfl
        · rw [k6, b3, List.length_append]; simp
      · rcases List.mem_append.mp hd with q | q
        · rw [up1_n _ _ (fun e : d = c => hf th (e ▸ q))]; exact a4 th d q
        · rw [List.mem_singleton.mp q, up1_s]; exact ⟨rfl, hc⟩
      · rcases List.mem_append.mp hd with q | q
        · rw [up1_n _ _ (fun e : d = c => hf th (e ▸ q))]; exact a4 th d q
        · rw [List.mem_singleton.mp q, up1_s]; exact ⟨rfl, hc⟩
      · rw [up1_n _ _ (fun e : d = c => hf x (e ▸ hd))]; exact (a4 x d hd).1
      · exact List.nodup_append.mpr ⟨a5 th, (by simp), fun x hx y hy e => hf th (by rw [List.mem_singleton.mp hy] at e; exact e ▸ hx)⟩
      · exact List.nodup_append.mpr ⟨a5 th, (by simp), fun x hx y hy e => hf th (by rw [List.mem_singleton.mp hy] at e; exact e ▸ hx)⟩
      · exact k7 d 0 (fun e => by have := e.2; omega) (fun e => by have := e.2; omega) (fun e => (ht.ne hd (by decide)) e.1.symm) (fun e => (ht.ne hd (by decide)) e.1.symm)
    have eq9 : up1 (up1 LL th (LL th ++ [c])) th (LL th ++ [c]) = up1 LL th (LL th ++ [c]) := by
      funext x; unfold up1; split <;> rfl
    rw [eq9] at hp
    refine hQ σ12 hp ⟨k1, k2, k3, fun a k q1 q2 => k5 a k (fun e => q2 (e ▸ ht)), fun a k _ => by rw [k4], fun a k q1 q2 q3 => k7 a k (fun e => q1 ⟨e.1 ▸ hc, e.2⟩) (fun e => q1 ⟨lst0 a e.1.symm, e.2⟩) (fun e => q2 (e.1 ▸ ht)) (fun e => q2 (e.1 ▸ ht))⟩ (fun a k => ?_) k4 k5
    by_cases q : a = th
    · subst q
      by_cases q2 : k = 2
      · subst q2; rw [k6, b3]; unfold rng; omega
      · rw [k6b k q2]; exact hG _ _
    · rw [k5 a k q]; exact hG _ _
  have rs : ∀ τ : Sg, gI τ th 2 = gI σ th 2 → rng (gI τ th 2 + 1) := fun τ e => by rw [e, b3]; unfold rng; omega
  by_cases hL : LL th = []
  · rw [if_neg (by rw [g1, hL]; simp)]
    unfold w_X1_add_12
    intro σ10 e10
    unfold w_X1_add_28
    intro σ11 e11
    refine ⟨rs σ11 (by rw [e11, e10, e9]), ?_⟩
    intro σ12 e12
    subst e9 e10 e11 e12
    refine fin _ rfl rfl rfl rfl (fun a k q => ?_) ?_ (fun k q => ?_) (fun a k q1 q2 q3 q4 => ?_) ?_ (fun a q => by rw [hL] at q; cases q) ?_ (fun _ => ?_)
    · rw [gI_pI]; exact up2_n _ _ (fun e => q e.1)
    · rw [gI_pI]; exact up2_s _ _ _ _
    · rw [gI_pI]; exact up2_n _ _ (fun e => q e.2)
    · show up2 (gP _) th 1 (some c) a k = _
      rw [up2_n _ _ q3, gP_pP, up2_n _ _ (fun e => q4 ⟨e.1, e.2, hL⟩), gP_pP, up2_n _ _ q1]
    · show up2 (gP _) th 1 (some c) c 1 = none
      rw [up2_n _ _ (fun e => thc e.1.symm), gP_pP, up2_n _ _ (fun e => thc e.1.symm), gP_pP, up2_s]
    · show up2 (gP _) th 1 (some c) th 1 = some c
      exact up2_s _ _ _ _
    · show up2 (gP _) th 1 (some c) th 0 = some c
      rw [up2_n _ _ (fun e => by have := e.2; omega), gP_pP, up2_s]
  · obtain ⟨a, ha⟩ : ∃ a, (LL th).getLast? = some a := by
      cases q : (LL th).getLast? with
      | none => exact absurd (List.getLast?_eq_none_iff.mp q) hL
      | some a => exact ⟨a, rfl⟩
    have ha0 : kO σ a 0 := (a4 th a (List.mem_of_getLast? ha)).2
    have hac : a ≠ c := fun e => hf th (e ▸ List.mem_of_getLast? ha)
    have hta : th ≠ a := ht.ne ha0 (by decide)
    rw [if_pos (by rw [g1, ha]; simp)]
    unfold w_X1_add_20
    refine ⟨a, by rw [g1, ha], fun _ => ?_⟩
    intro σ14 e14
    unfold w_X1_add_28
    intro σ11 e11
    refine ⟨rs σ11 (by rw [e11, e14, e9]), ?_⟩
    intro σ12 e12
    subst e9 e14 e11 e12
    refine fin _ rfl rfl rfl rfl (fun b k q => ?_) ?_ (fun k q => ?_) (fun b k q1 q2 q3 q4 => ?_) ?_ (fun b q => ?_) ?_ (fun q => absurd q hL)
    · rw [gI_pI]; exact up2_n _ _ (fun e => q e.1)
    · rw [gI_pI]; exact up2_s _ _ _ _
    · rw [gI_pI]; exact up2_n _ _ (fun e => q e.2)
    · show up2 (gP _) th 1 (some c) b k = _
      rw [up2_n _ _ q3, gP_pP, up2_n _ _ (fun e => q2 ⟨by rw [ha, e.1], e.2⟩), gP_pP, up2_n _ _ q1]
    · show up2 (gP _) th 1 (some c) c 1 = none
      rw [up2_n _ _ (fun e => thc e.1.symm), gP_pP, up2_n _ _ (fun e => hac e.1.symm), gP_pP, up2_s]
    · rw [ha] at q; cases q
      show up2 (gP _) th 1 (some c) a 1 = some c
      rw [up2_n _ _ (fun e => hta e.1.symm), gP_pP, up2_s]
    · show up2 (gP _) th 1 (some c) th 1 = some c
      exact up2_s _ _ _ _
end HPS
section HPR
variable {σ σ' : Sg} {pl th c : Nat} {LL : Nat → List Nat} {own : Nat → Nat}
theorem up1_2 {α : Type} (f : Nat → α) (a : Nat) (v : α) : up1 (up1 f a v) a v = up1 f a v := by
  funext x; unfold up1; split <;> rfl
/-- a cell in hand goes back to the pool -/
theorem s_X8_release {Q : Sg → Unit → Prop} {X : Sg → String → Prop} (h : HP σ pl LL own) (hc : kO σ c 0) (hf : ∀ x, c ∉ LL x) (hQ : ∀ σ', HP σ' pl (up1 LL pl (c :: LL pl)) (up1 own c pl) → FrH pl σ σ' → gI σ' = gI σ → gJ σ' = gJ σ → Q σ' ()) : wp_X8_release pl (some c) σ Q X := by
  obtain ⟨a1, ⟨a2, a3⟩, a4, a5, a6, a7⟩ := id h
  have plc : pl ≠ c := a2.ne hc (by decide)
  unfold wp_X8_release w_X8_release_0
  refine ⟨c, rfl, fun _ => ?_⟩
  intro σ5 e5 σ6 e6
  have hP : ∀ a k, gP σ6 a k = if a = pl ∧ k = 0 then some c else if a = c ∧ k = 1 then gP σ pl 0 else gP σ a k := by
    intro a k
    rw [e6, gP_pP, e5, gP_pP]
    rfl
  have hPo : ∀ a k, ¬ (a = pl ∧ k = 0) → ¬ (a = c ∧ k = 1) → gP σ6 a k = gP σ a k := fun a k q1 q2 => by rw [hP, if_neg q1, if_neg q2]
  have k1 : σ6.1 = σ.1 := by rw [e6, e5]
  have k2 : gk σ6 = gk σ := by rw [e6, e5]
  have k3 : gn σ6 = gn σ := by rw [e6, e5]
  have k4 : gI σ6 = gI σ := by rw [e6, e5]
  have k5 : gJ σ6 = gJ σ := by rw [e6, e5]
  have hp : HP σ6 pl (up1 (up1 LL pl (c :: LL pl)) pl (c :: LL pl)) (up1 own c pl) := by
    have hne : ∀ d ∈ LL pl, d ≠ c := fun d hd e => hf pl (e ▸ hd)
    have hm : ∀ d ∈ c :: LL pl, up1 own c pl d = pl ∧ kO σ d 0 := fun d hd => by
      rcases List.mem_cons.mp hd with q | q
      · rw [q, up1_s]; exact ⟨rfl, hc⟩
      · rw [up1_n _ _ (hne d q)]; exact a4 pl d q
    have hl : lk (fun d => gP σ6 d 1) (gP σ6 pl 0) (c :: LL pl) := by
      refine ⟨by rw [hP, if_pos ⟨rfl, rfl⟩], ?_⟩
      have e1 : gP σ6 c 1 = gP σ pl 0 := by rw [hP, if_neg (fun e => plc e.1.symm), if_pos ⟨rfl, rfl⟩]
      show lk _ (gP σ6 c 1) _
      rw [e1]
      exact lk_congr (fun d hd => hPo d 1 (fun e => by have := e.2; omega) (fun e => hne d hd e.1)) a3
    have hnd : (c :: LL pl).Nodup := List.nodup_cons.mpr ⟨hf pl, a5 pl⟩
    refine h.mk2 k1 k2 k3 (fun x q1 _ d hd => hPo d 1 (fun e => by have := e.2; omega) (fun e => hf x (e.1 ▸ hd))) (fun ch q1 _ hch => ⟨hPo ch 0 (fun e => q1 e.1) (fun e => by have := e.2; omega), hPo ch 1 (fun e => q1 e.1) (fun e => (hch.ne hc (by decide)) e.1), by rw [k4]⟩) (fun q _ => absurd rfl q) (fun q _ => absurd (a2.2.symm.trans q.2) (by decide)) (fun q => absurd (a2.2.symm.trans q.2) (by decide)) (fun _ q => absurd rfl q) (fun _ => hl) hm hm (fun x q1 _ d hd => by rw [up1_n _ _ (fun e : d = c => hf x (e ▸ hd))]; exact (a4 x d hd).1) hnd hnd (Or.inl rfl) (Or.inl rfl) (fun d hd => hPo d 0 (fun e => (a2.ne hd (by decide)) e.1.symm) (fun e => by have := e.2; omega))
  rw [up1_2] at hp
  exact hQ σ6 hp ⟨k1, k2, k3, fun a k _ _ => by rw [k4], fun a k _ => by rw [k5], fun a k q1 q2 q3 => hPo a k q3 (fun e => q1 ⟨e.1 ▸ hc, e.2⟩)⟩ k4 k5
end HPR

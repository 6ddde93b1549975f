/-- where things are: all apart -/
def Geo (ra : Nat → Nat) (jx : Nat → Nat → Nat) (rm : Nat) : Prop := (∀ i j, ra i = ra j ↔ i = j) ∧ (∀ i, ¬ ra i = rm) ∧ (∀ i, ¬ rm = ra i) ∧ (∀ a k i, ¬ jx a k = ra i) ∧ (∀ a k i, ¬ ra i = jx a k) ∧ (∀ a k, ¬ jx a k = rm) ∧ (∀ a k, ¬ rm = jx a k) ∧ (∀ a k b j, jx a k = jx b j ↔ a = b ∧ k = j)
theorem rII (σ : Sg) (a k b j : Nat) (x : Int) : gI (pI σ a k x) b j = if b = a ∧ j = k then x else gI σ b j := rfl
theorem rIJ (σ : Sg) (a k : Nat) (x : Int64) : gI (pJ σ a k x) = gI σ := rfl
theorem rIP (σ : Sg) (a k : Nat) (x : Option Nat) : gI (pP σ a k x) = gI σ := rfl
theorem rJJ (σ : Sg) (a k b j : Nat) (x : Int64) : gJ (pJ σ a k x) b j = if b = a ∧ j = k then x else gJ σ b j := rfl
theorem rJI (σ : Sg) (a k : Nat) (x : Int) : gJ (pI σ a k x) = gJ σ := rfl
theorem rJP (σ : Sg) (a k : Nat) (x : Option Nat) : gJ (pP σ a k x) = gJ σ := rfl
theorem rPP (σ : Sg) (a k b j : Nat) (x : Option Nat) : gP (pP σ a k x) b j = if b = a ∧ j = k then x else gP σ b j := rfl
theorem rPI (σ : Sg) (a k : Nat) (x : Int) : gP (pI σ a k x) = gP σ := rfl
theorem rPJ (σ : Sg) (a k : Nat) (x : Int64) : gP (pJ σ a k x) = gP σ := rfl
def up (f : Int → Int) (a v : Int) : Int → Int := fun b => if b = a then v else f b
theorem up_s (f : Int → Int) (a v : Int) : up f a v a = v := by simp [up]
/-- lists: of each node whose it is and the how manieth -/
def LL (L : Int → Prop) (nx fi la mn own ps : Int → Int) : Prop :=
  (∀ a, L (own a) → 0 ≤ a ∧ 0 ≤ ps a ∧ ps a < mn (own a) ∧ (ps a + 1 = mn (own a) → nx a = -1) ∧ (ps a + 1 < mn (own a) → own (nx a) = own a ∧ ps (nx a) = ps a + 1)) ∧
  (∀ a b, L (own a) → own a = own b → ps a = ps b → a = b) ∧
  (∀ T, L T → 0 ≤ mn T ∧ (mn T = 0 → fi T = -1 ∧ la T = -1) ∧ (0 < mn T → own (fi T) = T ∧ ps (fi T) = 0 ∧ own (la T) = T ∧ ps (la T) + 1 = mn T))
/-- free nodes -/
def FL (z : Int) (nx own ps : Int → Int) (fr F : Int) : Prop :=
  (∀ a, own a = z → 0 ≤ a ∧ 0 ≤ ps a ∧ ps a < F ∧ (ps a = 0 → nx a = -1) ∧ (0 < ps a → own (nx a) = z ∧ ps (nx a) = ps a - 1)) ∧
  (∀ a b, own a = z → own b = z → ps a = ps b → a = b) ∧
  0 ≤ F ∧ (F = 0 → fr = -1) ∧ (0 < F → own fr = z ∧ ps fr = F - 1)
theorem LL.app {L : Int → Prop} {nx fi la mn own ps nx' fi' la' mn' : Int → Int} {T r : Int} (h : LL L nx fi la mn own ps) (hT : L T) (hr : 0 ≤ r) (ho : ¬ L (own r))
    (en : ∀ a, 0 ≤ a → nx' a = if a = r then -1 else if a = la T then r else nx a) (ef : ∀ S, L S → fi' S = if S = T ∧ la T = -1 then r else fi S) (el : ∀ S, L S → la' S = if S = T then r else la S) (em : ∀ S, L S → mn' S = if S = T then mn T + 1 else mn S) :
    LL L nx' fi' la' mn' (up own r T) (up ps r (mn T)) := by
  obtain ⟨h1, h2, h3⟩ := h
  have h4 := h3 T hT
  have h5 := h1 (la T); have h6 := h1 (fi T)
  refine ⟨?_, ?_, ?_⟩
  · intro a ha
    have h7 := h1 a; have h8 := h1 (nx a); have h9 := h2 a (la T)
    have h10 := h2 (la T) a; have h11 := en a
    have h12 := em (own a); have h13 := em T
    clear h1 h2 h3 en ef el
    simp only [up] at ha ⊢
    grind (splits := 30)
  · intro a b
    have h7 := h1 a; have h8 := h1 b; have h9 := h2 a b
    clear h1 h2 h3
    simp only [up]
    grind (splits := 30)
  · intro S hS
    have h7 := h3 S hS
    have h8 := h1 (la S); have h9 := h1 (fi S)
    have h11 := ef S; have h12 := em S; have h13 := el S
    clear h1 h2 h3 en ef el em
    simp only [up]
    grind (splits := 30)
/-- one goes: p is the one before it, -1 for none -/
theorem LL.cut {L : Int → Prop} {nx fi la mn own ps nx' fi' la' mn' : Int → Int} {T r p z w : Int} (h : LL L nx fi la mn own ps) (hT : L T) (hr : own r = T) (hz : ¬ L z) (hp0 : p = -1 → ps r = 0) (hp : p ≠ -1 → own p = T ∧ ps p + 1 = ps r)
    (en : ∀ a, 0 ≤ a → a ≠ r → nx' a = if a = p then nx r else nx a) (ef : ∀ S, L S → fi' S = if S = T ∧ p = -1 then nx r else fi S) (el : ∀ S, L S → la' S = if S = T ∧ la T = r then p else la S) (em : ∀ S, L S → mn' S = if S = T then mn T - 1 else mn S) :
    LL L nx' fi' la' mn' (up own r z) (up (fun a => if own a = T ∧ ps r < ps a then ps a - 1 else ps a) r w) := by
  obtain ⟨h1, h2, h3⟩ := h
  have h4 := h3 T hT
  have h5 := h1 (la T); have h6 := h1 (fi T); have hr1 := h1 r; have hp1 := h1 p; have hq := h1 (nx r)
  have i1 := h2 r (la T); have i2 := h2 r (fi T); have i3 := h2 p r; have i4 := h2 p (la T)
  refine ⟨?_, ?_, ?_⟩
  · intro a ha
    have h7 := h1 a; have h8 := h1 (nx a); have h9 := h2 a (la T)
    have h10 := h2 a r; have h11 := en a; have h14 := h2 a p; have h15 := h2 (nx a) r
    have h12 := em (own a); have h13 := em T
    clear h1 h2 h3 en ef el em
    simp only [up] at ha ⊢
    grind (splits := 30)
  · intro a b
    have h7 := h1 a; have h8 := h1 b; have h9 := h2 a b
    have h10 := h2 a r; have h11 := h2 b r
    clear h1 h2 h3
    simp only [up]
    grind (splits := 30)
  · intro S hS
    have h7 := h3 S hS
    have h8 := h1 (la S); have h9 := h1 (fi S)
    have h11 := ef S; have h12 := em S; have h13 := el S
    have i5 := h2 (fi S) r; have i6 := h2 (la S) r; have i7 := h2 (fi S) p
    clear h1 h2 h3 en ef el em
    simp only [up]
    grind (splits := 30)
/-- a node comes to the free ones -/
theorem FL.push {z : Int} {nx own ps nx' ps' : Int → Int} {fr F r : Int} (h : FL z nx own ps fr F) (hr : 0 ≤ r) (ho : own r ≠ z) (en : ∀ a, own a = z → nx' a = nx a) (er : nx' r = fr) (ep : ∀ a, own a = z → ps' a = ps a) : FL z nx' (up own r z) (up ps' r F) r (F + 1) := by
  obtain ⟨h1, hi, h2, h3, h4⟩ := h
  refine ⟨?_, ?_, by omega, by omega, fun _ => ⟨by simp [up], by simp [up]⟩⟩
  · intro a ha
    have h5 := h1 a; have h6 := en a; have h7 := ep a; have h8 := h1 (nx a); have h9 := ep (nx a); have h10 := ep fr
    clear h1 en ep hi
    simp only [up] at ha ⊢
    grind (splits := 30)
  · intro a b
    have h5 := hi a b; have h6 := h1 a; have h7 := h1 b; have h8 := ep a; have h9 := ep b
    clear h1 en ep hi
    simp only [up]
    grind (splits := 30)
/-- the first of them is taken -/
theorem FL.pop {z : Int} {nx own ps nx' ps' : Int → Int} {fr F w : Int} (h : FL z nx own ps fr F) (hF : 0 < F) (hw : w ≠ z) (en : ∀ a, own a = z → a ≠ fr → nx' a = nx a) (ep : ∀ a, own a = z → a ≠ fr → ps' a = ps a) : FL z nx' (up own fr w) ps' (nx fr) (F - 1) := by
  obtain ⟨h1, hi, h2, h3, h4⟩ := h
  have h0 := h1 fr; have k8 := h1 (nx fr)
  refine ⟨?_, ?_, by omega, ?_, ?_⟩
  · intro a ha
    have h5 := h1 a; have h6 := en a; have h7 := ep a; have h8 := h1 (nx a); have h9 := ep (nx a); have h10 := hi a fr; have h11 := hi (nx a) fr
    clear h1 en ep hi
    simp only [up] at ha ⊢
    grind (splits := 30)
  · intro a b
    have h5 := hi a b; have h8 := ep a; have h9 := ep b
    clear h1 en ep hi
    simp only [up]
    grind (splits := 30)
  · clear h1 en ep hi; grind
  · intro h5
    have h9 := ep (nx fr)
    clear h1 en ep hi
    simp only [up]
    grind (splits := 30)

/-- sums -/
def sumN : Nat → (Int → Int) → Int
  | 0, _ => 0
  | n + 1, f => sumN n f + f n
theorem sumN_up {n : Nat} {f f' : Int → Int} {T v : Int} (hT : 0 ≤ T ∧ T < n) (e : ∀ S : Int, 0 ≤ S ∧ S < n → f' S = if S = T then v else f S) : sumN n f' = sumN n f + v - f T := by
  induction n with
  | zero => omega
  | succ n ih =>
    have h1 := e n (by omega)
    simp only [sumN]
    by_cases hn : T = n
    · have h2 : ∀ m : Nat, m ≤ n → sumN m f' = sumN m f := by
        intro m
        induction m with
        | zero => intro _; rfl
        | succ m ih2 => intro hm; have h3 := e m (by omega); simp only [sumN]; rw [ih2 (by omega), h3, if_neg (by omega)]
      rw [h2 n (Nat.le_refl _), h1, if_pos hn.symm, hn]; omega
    · rw [ih (by omega) (fun S hS => e S (by omega)), h1, if_neg (by omega)]; omega
theorem sumN_ge {n : Nat} {f : Int → Int} (h : ∀ T : Int, 0 ≤ T ∧ T < n → 0 ≤ f T) : 0 ≤ sumN n f ∧ ∀ T : Int, 0 ≤ T ∧ T < n → f T ≤ sumN n f := by
  induction n with
  | zero => exact ⟨by simp [sumN], fun T hT => by omega⟩
  | succ n ih =>
    have h1 := ih (fun T hT => h T (by omega)); have h2 := h n (by omega)
    simp only [sumN]
    refine ⟨by omega, fun T hT => ?_⟩
    by_cases hn : T = n
    · rw [hn]; omega
    · have := h1.2 T (by omega); omega
/-- what is left as it was: all but the arrays K, the own fields S -/
def Fr (ra : Nat → Nat) (jx : Nat → Nat → Nat) (rm : Nat) (K S : List Nat) (σ σ' : Sg) : Prop :=
  (∀ k, k ∉ K → gI σ' (ra k) = gI σ (ra k) ∧ gJ σ' (ra k) = gJ σ (ra k)) ∧ (∀ k, k ∉ S → gI σ' rm k = gI σ rm k ∧ gJ σ' rm k = gJ σ rm k) ∧ (∀ a k, gI σ' (jx a k) = gI σ (jx a k) ∧ gJ σ' (jx a k) = gJ σ (jx a k)) ∧ gP σ' = gP σ
section FR
variable {ra : Nat → Nat} {jx : Nat → Nat → Nat} {rm : Nat} {K S : List Nat} {σ σ' σ'' : Sg}
theorem Fr.rf : Fr ra jx rm K S σ σ := ⟨fun _ _ => ⟨rfl, rfl⟩, fun _ _ => ⟨rfl, rfl⟩, fun _ _ => ⟨rfl, rfl⟩, rfl⟩
theorem Fr.tr (h1 : Fr ra jx rm K S σ σ') (h2 : Fr ra jx rm K S σ' σ'') : Fr ra jx rm K S σ σ'' :=
  ⟨fun k hk => ⟨(h2.1 k hk).1.trans (h1.1 k hk).1, (h2.1 k hk).2.trans (h1.1 k hk).2⟩, fun k hk => ⟨(h2.2.1 k hk).1.trans (h1.2.1 k hk).1, (h2.2.1 k hk).2.trans (h1.2.1 k hk).2⟩, fun a k => ⟨(h2.2.2.1 a k).1.trans (h1.2.2.1 a k).1, (h2.2.2.1 a k).2.trans (h1.2.2.1 a k).2⟩, h2.2.2.2.trans h1.2.2.2⟩
theorem Fr.more {K' S' : List Nat} (h : Fr ra jx rm K S σ σ') (hK : ∀ k, k ∈ K → k ∈ K') (hS : ∀ k, k ∈ S → k ∈ S') : Fr ra jx rm K' S' σ σ' :=
  ⟨fun k hk => h.1 k (fun q => hk (hK k q)), fun k hk => h.2.1 k (fun q => hk (hS k q)), h.2.2⟩
theorem up2_off {α : Type} {f : Nat → Nat → α} {a k b : Nat} {v : α} (h : ¬ b = a) : up2 f a k v b = f b := by funext j; simp [up2, h]
theorem Fr.aI (g : Geo ra jx rm) (h : Fr ra jx rm K S σ σ') {k i : Nat} {x : Int} (hk : k ∈ K) : Fr ra jx rm K S σ (pI σ' (ra k) i x) :=
  h.tr ⟨fun j hj => ⟨up2_off (fun q => hj (by rw [(g.1 _ _).mp q]; exact hk)), rfl⟩, fun j _ => ⟨by show up2 _ _ _ _ rm j = _; rw [up2_off (g.2.2.1 k)], rfl⟩, fun a j => ⟨up2_off (g.2.2.2.1 a j k), rfl⟩, rfl⟩
theorem Fr.aJ (g : Geo ra jx rm) (h : Fr ra jx rm K S σ σ') {k i : Nat} {x : Int64} (hk : k ∈ K) : Fr ra jx rm K S σ (pJ σ' (ra k) i x) :=
  h.tr ⟨fun j hj => ⟨rfl, up2_off (fun q => hj (by rw [(g.1 _ _).mp q]; exact hk))⟩, fun j _ => ⟨rfl, by show up2 _ _ _ _ rm j = _; rw [up2_off (g.2.2.1 k)]⟩, fun a j => ⟨rfl, up2_off (g.2.2.2.1 a j k)⟩, rfl⟩
theorem Fr.sI (g : Geo ra jx rm) (h : Fr ra jx rm K S σ σ') {k : Nat} {x : Int} (hk : k ∈ S) : Fr ra jx rm K S σ (pI σ' rm k x) :=
  h.tr ⟨fun j _ => ⟨up2_off (g.2.1 j), rfl⟩, fun j hj => ⟨by show up2 _ _ _ _ rm j = _; exact up2_n _ _ (fun q => hj (by rw [q.2]; exact hk)), rfl⟩, fun a j => ⟨up2_off (g.2.2.2.2.2.1 a j), rfl⟩, rfl⟩
theorem Fr.sJ (g : Geo ra jx rm) (h : Fr ra jx rm K S σ σ') {k : Nat} {x : Int64} (hk : k ∈ S) : Fr ra jx rm K S σ (pJ σ' rm k x) :=
  h.tr ⟨fun j _ => ⟨rfl, up2_off (g.2.1 j)⟩, fun j hj => ⟨rfl, by show up2 _ _ _ _ rm j = _; exact up2_n _ _ (fun q => hj (by rw [q.2]; exact hk))⟩, fun a j => ⟨rfl, up2_off (g.2.2.2.2.2.1 a j)⟩, rfl⟩
end FR
/-- an int array as a function of integers -/
abbrev fI (σ : Sg) (a : Nat) : Int → Int := fun i => gI σ a i.toNat
/-- the records -/
def RecI (ra : Nat → Nat) (rm : Nat) (σ : Sg) (own ps : Int → Int) : Prop :=
  LL (fun T => 0 ≤ T ∧ T < 64) (fI σ (ra 75)) (fI σ (ra 76)) (fI σ (ra 77)) (fI σ (ra 78)) own ps ∧ FL 64 (fI σ (ra 75)) own ps (gI σ rm 79) (4000 - gI σ rm 80) ∧ (∀ a, 0 ≤ own a ∧ own a < 65 → 0 ≤ a ∧ a < 4000) ∧ (∀ a, 0 ≤ own a ∧ own a < 64 → gI σ (ra 69) a.toNat = own a) ∧ gI σ rm 80 = sumN 64 (fI σ (ra 78))
theorem RecI.fr {ra : Nat → Nat} {jx : Nat → Nat → Nat} {rm : Nat} {K S : List Nat} {σ σ' : Sg} {own ps : Int → Int} (h : RecI ra rm σ own ps) (f : Fr ra jx rm K S σ σ') (hK : ∀ k ∈ [69, 75, 76, 77, 78], k ∉ K) (hS : ∀ k ∈ [79, 80], k ∉ S) : RecI ra rm σ' own ps := by
  unfold RecI fI at *
  rw [(f.1 69 (hK _ (by simp))).1, (f.1 75 (hK _ (by simp))).1, (f.1 76 (hK _ (by simp))).1, (f.1 77 (hK _ (by simp))).1, (f.1 78 (hK _ (by simp))).1, (f.2.1 79 (hS _ (by simp))).1, (f.2.1 80 (hS _ (by simp))).1]
  exact h
theorem Fr.mor {ra : Nat → Nat} {jx : Nat → Nat → Nat} {rm : Nat} {K S K' S' : List Nat} {σ σ' : Sg} (h : Fr ra jx rm K S σ σ') (hK : (K.all fun k => K'.contains k) = true) (hS : (S.all fun k => S'.contains k) = true) : Fr ra jx rm K' S' σ σ' :=
  h.more (fun k hk => by have := List.all_eq_true.mp hK k hk; simpa using this) (fun k hk => by have := List.all_eq_true.mp hS k hk; simpa using this)

theorem RecI.nd {ra : Nat → Nat} {rm : Nat} {σ : Sg} {own ps : Int → Int} {a T : Int} (h : RecI ra rm σ own ps) (ho : own a = T) (hT : 0 ≤ T ∧ T < 64) : (0 ≤ a ∧ a < 4000) ∧ 0 ≤ ps a ∧ ps a < gI σ (ra 78) T.toNat ∧ ((ps a + 1 = gI σ (ra 78) T.toNat ∧ gI σ (ra 75) a.toNat = -1) ∨ (ps a + 1 < gI σ (ra 78) T.toNat ∧ own (gI σ (ra 75) a.toNat) = T ∧ ps (gI σ (ra 75) a.toNat) = ps a + 1)) := by
  have h1 := h.1.1 a (by rw [ho]; exact hT)
  have h2 := h.2.2.1 a (by omega)
  rw [ho] at h1
  refine ⟨h2, h1.2.1, h1.2.2.1, ?_⟩
  by_cases q : ps a + 1 = gI σ (ra 78) T.toNat
  · exact Or.inl ⟨q, h1.2.2.2.1 q⟩
  · have q2 : ps a + 1 < gI σ (ra 78) T.toNat := by have := h1.2.2.1; simp only [fI] at this; omega
    exact Or.inr ⟨q2, h1.2.2.2.2 q2⟩
theorem RecI.hd {ra : Nat → Nat} {rm : Nat} {σ : Sg} {own ps : Int → Int} {T : Int} (h : RecI ra rm σ own ps) (hT : 0 ≤ T ∧ T < 64) : gI σ (ra 76) T.toNat = -1 ∨ own (gI σ (ra 76) T.toNat) = T := by
  have h1 := h.1.2.2 T hT
  by_cases q : gI σ (ra 78) T.toNat = 0
  · exact Or.inl (h1.2.1 q).1
  · exact Or.inr (h1.2.2 (by have := h1.1; simp only [fI] at this ⊢; omega)).1
theorem RecI.fre {ra : Nat → Nat} {rm : Nat} {σ : Sg} {own ps : Int → Int} (h : RecI ra rm σ own ps) : gI σ rm 80 ≤ 4000 ∧ (gI σ rm 80 ≠ 4000 → own (gI σ rm 79) = 64 ∧ 0 ≤ gI σ rm 79 ∧ gI σ rm 79 < 4000) := by
  have h1 := h.2.1.2.2
  refine ⟨by omega, fun q => ?_⟩
  have h2 := h1.2.2 (by omega)
  have h3 := h.2.2.1 (gI σ rm 79) (by omega)
  exact ⟨h2.1, h3.1, h3.2⟩
theorem RecI.bd {ra : Nat → Nat} {rm : Nat} {σ : Sg} {own ps : Int → Int} (h : RecI ra rm σ own ps) : ∀ T : Int, 0 ≤ T ∧ T < 64 → 0 ≤ gI σ (ra 78) T.toNat ∧ gI σ (ra 78) T.toNat ≤ gI σ rm 80 := by
  intro T hT
  have hs := sumN_ge (n := 64) (f := fI σ (ra 78)) (fun T hT => (h.1.2.2 T hT).1)
  rw [← h.2.2.2.2] at hs
  exact ⟨(h.1.2.2 T hT).1, hs.2 T hT⟩
/-- one more -/
theorem RecI.app {ra : Nat → Nat} {rm : Nat} {σ σ' : Sg} {own ps : Int → Int} {T : Int} (h : RecI ra rm σ own ps) (hT : 0 ≤ T ∧ T < 64) (hf : gI σ rm 80 ≠ 4000)
    (e1 : ∀ a, 0 ≤ a → gI σ' (ra 75) a.toNat = if a = gI σ rm 79 then -1 else if a = gI σ (ra 77) T.toNat then gI σ rm 79 else gI σ (ra 75) a.toNat)
    (e3 : ∀ S, 0 ≤ S ∧ S < 64 → gI σ' (ra 76) S.toNat = if S = T ∧ gI σ (ra 77) T.toNat = -1 then gI σ rm 79 else gI σ (ra 76) S.toNat)
    (e4 : ∀ S, 0 ≤ S ∧ S < 64 → gI σ' (ra 77) S.toNat = if S = T then gI σ rm 79 else gI σ (ra 77) S.toNat)
    (e5 : ∀ S, 0 ≤ S ∧ S < 64 → gI σ' (ra 78) S.toNat = if S = T then gI σ (ra 78) T.toNat + 1 else gI σ (ra 78) S.toNat)
    (e6 : gI σ' rm 79 = gI σ (ra 75) (gI σ rm 79).toNat) (e7 : gI σ' rm 80 = gI σ rm 80 + 1)
    (e8 : ∀ a, 0 ≤ a → gI σ' (ra 69) a.toNat = if a = gI σ rm 79 then T else gI σ (ra 69) a.toNat) :
    RecI ra rm σ' (up own (gI σ rm 79) T) (up ps (gI σ rm 79) (gI σ (ra 78) T.toNat)) := by
  have hfr := h.fre
  obtain ⟨hL, hF, hr, ht, hs⟩ := h
  have h4 := hfr.2 hf
  have c := LL.app (nx' := fI σ' (ra 75)) (fi' := fI σ' (ra 76)) (la' := fI σ' (ra 77)) (mn' := fI σ' (ra 78)) (T := T) (r := gI σ rm 79) hL hT h4.2.1 (by omega) e1 e3 e4 e5
  have d := FL.pop (nx' := fI σ' (ra 75)) (ps' := up ps (gI σ rm 79) (gI σ (ra 78) T.toNat)) (w := T) hF (by omega) (by omega) (fun a ha hn => by
    have h5 := hF.1 a ha
    show gI σ' (ra 75) a.toNat = _
    rw [e1 a h5.1, if_neg hn, if_neg]
    intro q
    have h6 := hL.2.2 T hT
    have h7 := hL.1 a
    by_cases hm : fI σ (ra 78) T = 0
    · have := (h6.2.1 hm).2; simp only [fI] at this; omega
    · have h8 := h6.2.2 (by have := h6.1; omega)
      have h9 : own a = T := by rw [q]; exact h8.2.2.1
      omega) (fun a ha hn => by simp [up, hn])
  refine ⟨c, ?_, ?_, ?_, ?_⟩
  · rw [e6, e7]; have e9 : 4000 - (gI σ rm 80 + 1) = 4000 - gI σ rm 80 - 1 := by omega
    rw [e9]; exact d
  · intro a ha; simp only [up] at ha; split at ha
    · rename_i q; rw [q]; exact h4.2
    · exact hr a ha
  · intro a ha; simp only [up] at ha ⊢; split at ha
    · rename_i q; rw [if_pos q, e8 a (by omega), if_pos q]
    · rename_i q; rw [if_neg q, e8 a (by have := hr a (by omega); omega), if_neg q]; exact ht a ha
  · rw [e7, sumN_up (f := fI σ (ra 78)) hT e5, hs]; simp only [fI]; omega
/-- one less -/
theorem RecI.cut {ra : Nat → Nat} {rm : Nat} {σ σ' : Sg} {own ps : Int → Int} {T r p : Int} (h : RecI ra rm σ own ps) (hT : 0 ≤ T ∧ T < 64) (ho : own r = T) (h4 : p = -1 → ps r = 0) (h5 : p ≠ -1 → own p = T ∧ ps p + 1 = ps r)
    (e1 : ∀ a, 0 ≤ a → a ≠ r → gI σ' (ra 75) a.toNat = if a = p then gI σ (ra 75) r.toNat else gI σ (ra 75) a.toNat) (e2 : gI σ' (ra 75) r.toNat = gI σ rm 79)
    (e3 : ∀ S, 0 ≤ S ∧ S < 64 → gI σ' (ra 76) S.toNat = if S = T ∧ p = -1 then gI σ (ra 75) r.toNat else gI σ (ra 76) S.toNat)
    (e4 : ∀ S, 0 ≤ S ∧ S < 64 → gI σ' (ra 77) S.toNat = if S = T ∧ gI σ (ra 77) T.toNat = r then p else gI σ (ra 77) S.toNat)
    (e5 : ∀ S, 0 ≤ S ∧ S < 64 → gI σ' (ra 78) S.toNat = if S = T then gI σ (ra 78) T.toNat - 1 else gI σ (ra 78) S.toNat)
    (e6 : gI σ' rm 79 = r) (e7 : gI σ' rm 80 = gI σ rm 80 - 1) (e8 : ∀ i, gI σ' (ra 69) i = gI σ (ra 69) i) :
    RecI ra rm σ' (up own r 64) (up (fun a => if own a = T ∧ ps r < ps a then ps a - 1 else ps a) r (4000 - gI σ rm 80)) := by
  obtain ⟨hL, hF, hr, ht, hs⟩ := h
  have hr1 := hr r (by omega)
  have c := LL.cut (nx' := fI σ' (ra 75)) (fi' := fI σ' (ra 76)) (la' := fI σ' (ra 77)) (mn' := fI σ' (ra 78)) (p := p) (z := 64) hL hT ho (w := 4000 - gI σ rm 80) (by omega) h4 h5 e1 e3 e4 e5
  have d := FL.push (nx' := fI σ' (ra 75)) (ps' := fun a => if own a = T ∧ ps r < ps a then ps a - 1 else ps a) hF hr1.1 (by omega) (fun a ha => by
    have := hF.1 a ha
    show gI σ' (ra 75) a.toNat = _
    rw [e1 a this.1 (fun q => by rw [q] at ha; omega), if_neg (fun q => by subst q; have := h5 (by omega); omega)]) e2 (fun a ha => if_neg (by omega))
  refine ⟨c, ?_, ?_, ?_, ?_⟩
  · rw [e6, e7]; have e9 : 4000 - (gI σ rm 80 - 1) = 4000 - gI σ rm 80 + 1 := by omega
    rw [e9]; exact d
  · intro a ha; simp only [up] at ha; split at ha
    · rename_i q; rw [q]; exact hr1
    · exact hr a ha
  · intro a ha; rw [e8]; simp only [up] at ha ⊢; split at ha
    · omega
    · rename_i q; rw [if_neg q]; exact ht a ha
  · rw [e7, sumN_up (f := fI σ (ra 78)) hT e5, hs]; simp only [fI]; omega
theorem RecI.la {ra : Nat → Nat} {rm : Nat} {σ : Sg} {own ps : Int → Int} {T : Int} (h : RecI ra rm σ own ps) (hT : 0 ≤ T ∧ T < 64) : gI σ (ra 77) T.toNat = -1 ∨ (own (gI σ (ra 77) T.toNat) = T ∧ 0 ≤ gI σ (ra 77) T.toNat ∧ gI σ (ra 77) T.toNat < 4000) := by
  have h1 := h.1.2.2 T hT
  by_cases q : gI σ (ra 78) T.toNat = 0
  · exact Or.inl (h1.2.1 q).2
  · have h2 := (h1.2.2 (by have := h1.1; simp only [fI] at this ⊢; omega)).2.2.1
    exact Or.inr ⟨h2, h.2.2.1 _ (by simp only [fI] at h2; omega)⟩
theorem RecI.hd0 {ra : Nat → Nat} {rm : Nat} {σ : Sg} {own ps : Int → Int} {a T : Int} (h : RecI ra rm σ own ps) (ho : own a = T) (hT : 0 ≤ T ∧ T < 64) : own (gI σ (ra 76) T.toNat) = T ∧ ps (gI σ (ra 76) T.toNat) = 0 ∧ 0 ≤ gI σ (ra 76) T.toNat ∧ gI σ (ra 76) T.toNat < 4000 := by
  have h0 := h.nd ho hT
  have h1 := (h.1.2.2 T hT).2.2 (by simp only [fI]; omega)
  simp only [fI] at h1
  exact ⟨h1.1, h1.2.1, h.2.2.1 _ (by omega)⟩

def rgT (k : Nat) : Int × Int := match k with
  | 22 => (0, 64)
  | 25 => (0, 1)
  | 37 => (0, 64)
  | 38 => (0, 15)
  | 39 => (0, 3)
  | 43 => (0, 64)
  | 44 => (0, 1)
  | 45 => ((-1), 1099)
  | 46 => ((-1), 12801)
  | 47 => ((-1), 12801)
  | 51 => (0, 63)
  | 52 => (0, 63)
  | 53 => (0, 1)
  | 54 => (0, 8)
  | 55 => (0, 7)
  | 57 => (0, 1)
  | 59 => (0, 12801)
  | 60 => (0, 2)
  | 63 => (0, 29999)
  | 64 => (0, 1099)
  | 65 => ((-1), 12801)
  | 68 => (0, 2)
  | 69 => (0, 63)
  | 74 => (0, 29999)
  | 75 => ((-1), 3999)
  | 76 => ((-1), 3999)
  | 77 => ((-1), 3999)
  | 78 => (0, 4000)
  | 85 => (0, 29999)
  | 86 => ((-1), 1999)
  | 87 => ((-1), 1999)
  | 88 => ((-1), 1999)
  | 89 => (0, 2000)
  | 97 => (0, 4)
  | 98 => (0, 4000)
  | 99 => (0, 2)
  | 100 => (0, 15)
  | 101 => (0, 3)
  | 106 => (0, 29999)
  | 108 => (0, 64)
  | 118 => (0, 4000)
  | 119 => (0, 3999)
  | 120 => (0, 1)
  | 122 => (0, 7)
  | _ => (-2147483648, 2147483647)
def rgS (k : Nat) : Int × Int := match k with
  | 3 => (0, 1500)
  | 5 => (0, 1500)
  | 6 => (0, 1500)
  | 7 => (0, 1500)
  | 8 => (0, 1)
  | 10 => (0, 1500)
  | 12 => (0, 1500)
  | 19 => (0, 10)
  | 21 => (0, 1)
  | 27 => (0, 30000)
  | 30 => (0, 1)
  | 31 => (0, 1)
  | 32 => (0, 1)
  | 33 => (0, 4)
  | 34 => (0, 8)
  | 36 => (0, 64)
  | 50 => (0, 1100)
  | 66 => ((-1), 12801)
  | 67 => (0, 4000)
  | 79 => ((-1), 3999)
  | 80 => (0, 4000)
  | 90 => ((-1), 1999)
  | 91 => (0, 2000)
  | 96 => ((-1), 2147483647)
  | 113 => (0, 1)
  | 117 => (0, 4000)
  | _ => (-2147483648, 2147483647)
def rgJ (k : Nat) : Int × Int := match k with
  | 2 => (0, 11)
  | 4 => ((-1), 15)
  | 5 => ((-1), 15)
  | 6 => (0, 8)
  | 10 => (0, 7)
  | 11 => (0, 7)
  | 12 => (0, 8)
  | 13 => ((-1), 5999)
  | 14 => (0, 3)
  | 15 => (0, 17)
  | 18 => ((-1), 15)
  | _ => (-2147483648, 2147483647)
def rlT (k : Nat) : Int := match k with
  | 23 => 1000000
  | 40 => 4611686018427387904
  | 56 => 4611686018427387904
  | 61 => 4611686018427387904
  | 71 => 4611686018427387904
  | 83 => 4611686018427387904
  | 103 => 4611686018427387904
  | 109 => 4611686018427387904
  | _ => 9223372036854775807
def Rg (ra : Nat → Nat) (jx : Nat → Nat → Nat) (rm : Nat) (σ : Sg) : Prop :=
  (∀ k i, (rgT k).1 ≤ gI σ (ra k) i ∧ gI σ (ra k) i ≤ (rgT k).2) ∧ (∀ k, (rgS k).1 ≤ gI σ rm k ∧ gI σ rm k ≤ (rgS k).2) ∧ (∀ a k i, (rgJ k).1 ≤ gI σ (jx a k) i ∧ gI σ (jx a k) i ≤ (rgJ k).2) ∧ (∀ k i, (gJ σ (ra k) i).toInt ≤ rlT k)
section RG
variable {ra : Nat → Nat} {jx : Nat → Nat → Nat} {rm : Nat} {σ σ' : Sg}
theorem Rg.aI (g : Geo ra jx rm) (h : Rg ra jx rm σ) {k i : Nat} {x : Int} (hx : (rgT k).1 ≤ x ∧ x ≤ (rgT k).2) : Rg ra jx rm (pI σ (ra k) i x) := by
  obtain ⟨g1, g2, g3, g4, g5, g6, g7, g8⟩ := g
  refine ⟨fun j i' => ?_, fun j => ?_, fun a j i' => ?_, h.2.2.2⟩
  · simp only [rII, g1]; split
    · rename_i q; rw [q.1]; exact hx
    · exact h.1 j i'
  · simp only [rII, g3, false_and, if_false]; exact h.2.1 j
  · simp only [rII, g4, false_and, if_false]; exact h.2.2.1 a j i'
theorem Rg.aJ (g : Geo ra jx rm) (h : Rg ra jx rm σ) {k i : Nat} {x : Int64} (hx : x.toInt ≤ rlT k) : Rg ra jx rm (pJ σ (ra k) i x) := by
  obtain ⟨g1, g2, g3, g4, g5, g6, g7, g8⟩ := g
  refine ⟨h.1, h.2.1, h.2.2.1, fun j i' => ?_⟩
  simp only [rJJ, g1]; split
  · rename_i q; rw [q.1]; exact hx
  · exact h.2.2.2 j i'
theorem Rg.sI (g : Geo ra jx rm) (h : Rg ra jx rm σ) {k : Nat} {x : Int} (hx : (rgS k).1 ≤ x ∧ x ≤ (rgS k).2) : Rg ra jx rm (pI σ rm k x) := by
  obtain ⟨g1, g2, g3, g4, g5, g6, g7, g8⟩ := g
  refine ⟨fun j i' => ?_, fun j => ?_, fun a j i' => ?_, h.2.2.2⟩
  · simp only [rII, g2, false_and, if_false]; exact h.1 j i'
  · simp only [rII, true_and]; split
    · rename_i q; rw [q]; exact hx
    · exact h.2.1 j
  · simp only [rII, g6, false_and, if_false]; exact h.2.2.1 a j i'
theorem Rg.sJ (g : Geo ra jx rm) (h : Rg ra jx rm σ) {k : Nat} {x : Int64} : Rg ra jx rm (pJ σ rm k x) := by
  obtain ⟨g1, g2, g3, g4, g5, g6, g7, g8⟩ := g
  refine ⟨h.1, h.2.1, h.2.2.1, fun j i' => ?_⟩
  simp only [rJJ, g2, false_and, if_false]; exact h.2.2.2 j i'
theorem Rg.jI (g : Geo ra jx rm) (h : Rg ra jx rm σ) {a k i : Nat} {x : Int} (hx : (rgJ k).1 ≤ x ∧ x ≤ (rgJ k).2) : Rg ra jx rm (pI σ (jx a k) i x) := by
  obtain ⟨g1, g2, g3, g4, g5, g6, g7, g8⟩ := g
  refine ⟨fun j i' => ?_, fun j => ?_, fun b j i' => ?_, h.2.2.2⟩
  · simp only [rII, g5, false_and, if_false]; exact h.1 j i'
  · simp only [rII, g7, false_and, if_false]; exact h.2.1 j
  · simp only [rII, g8]; split
    · rename_i q; rw [q.1.2]; exact hx
    · exact h.2.2.1 b j i'
theorem Rg.jJ (g : Geo ra jx rm) (h : Rg ra jx rm σ) {a k i : Nat} {x : Int64} : Rg ra jx rm (pJ σ (jx a k) i x) := by
  obtain ⟨g1, g2, g3, g4, g5, g6, g7, g8⟩ := g
  refine ⟨h.1, h.2.1, h.2.2.1, fun j i' => ?_⟩
  simp only [rJJ, g5, false_and, if_false]; exact h.2.2.2 j i'
theorem Rg.pP (h : Rg ra jx rm σ) {a k : Nat} {x : Option Nat} : Rg ra jx rm (pP σ a k x) := h
end RG
/-! division of ints -/
theorem i32_rem {x y : Int} (hx : 0 ≤ x ∧ x < 2147483648) (hy : 0 < y ∧ y < 2147483648) : (i32 x - i32 x / i32 y * i32 y).toInt = x % y := by
  have h1 : (i32 x / i32 y) = i32 (x / y) := by
    apply Int32.toInt_inj.mp
    rw [Int32.toInt_div, i32_toInt ⟨by omega, by omega⟩, i32_toInt ⟨by omega, by omega⟩]
    have hq : 0 ≤ x / y ∧ x / y ≤ x := ⟨Int.ediv_nonneg hx.1 (by omega), Int.ediv_le_self _ hx.1⟩
    rw [i32_toInt ⟨by omega, by omega⟩, Int.tdiv_eq_ediv_of_nonneg hx.1]
    rw [Int.bmod_eq_of_le (by omega) (by omega)]
  have hq : 0 ≤ x / y ∧ x / y ≤ x := ⟨Int.ediv_nonneg hx.1 (by omega), Int.ediv_le_self _ hx.1⟩
  have e : x % y = x - x / y * y := by have := Int.emod_add_mul_ediv x y; rw [Int.mul_comm] at this; omega
  rw [h1, i32_mul, i32_sub, e]
  have h2 : 0 ≤ x % y ∧ x % y < y := ⟨Int.emod_nonneg _ (by omega), Int.emod_lt_of_pos _ hy.1⟩
  exact i32_toInt ⟨by omega, by omega⟩
theorem i32_div {x y : Int} (hx : 0 ≤ x ∧ x < 2147483648) (hy : 0 < y ∧ y < 2147483648) : (i32 x / i32 y).toInt = x / y := by
  rw [Int32.toInt_div, i32_toInt ⟨by omega, by omega⟩, i32_toInt ⟨by omega, by omega⟩]
  have hq : 0 ≤ x / y ∧ x / y ≤ x := ⟨Int.ediv_nonneg hx.1 (by omega), Int.ediv_le_self _ hx.1⟩
  rw [Int.tdiv_eq_ediv_of_nonneg hx.1, Int.bmod_eq_of_le (by omega) (by omega)]
theorem remI_eq {x y : Int} (hx : 0 ≤ x ∧ x < 2147483648) (hy : 0 < y ∧ y < 2147483648) : remI x y = x % y ∧ 0 ≤ remI x y ∧ remI x y < y := by
  have h : remI x y = x % y := i32_rem hx hy
  rw [h]; exact ⟨rfl, Int.emod_nonneg _ (by omega), Int.emod_lt_of_pos _ hy.1⟩
theorem divI_eq {x y : Int} (hx : 0 ≤ x ∧ x < 2147483648) (hy : 0 < y ∧ y < 2147483648) : divI x y = x / y ∧ 0 ≤ divI x y ∧ divI x y ≤ x := by
  have h : divI x y = x / y := i32_div hx hy
  rw [h]; exact ⟨rfl, Int.ediv_nonneg hx.1 (by omega), Int.ediv_le_self _ hx.1⟩
theorem i32any (v : Int32) : -2147483648 ≤ v.toInt ∧ v.toInt ≤ 2147483647 := by have := v.le_toInt; have := v.toInt_lt; omega
theorem and255 (v : Int32) : 0 ≤ (v &&& i32 255).toInt ∧ (v &&& i32 255).toInt ≤ 255 := by
  have h2 : (v &&& i32 255).toInt = (v.toBitVec &&& 255#32).toInt := rfl
  have h3 : (v.toBitVec &&& 255#32).toNat ≤ 255 := by rw [BitVec.toNat_and]; exact Nat.and_le_right
  rw [h2, BitVec.toInt_eq_toNat_of_lt (by omega)]; omega
theorem nB_rng (x : Int) : -2147483648 ≤ nB x ∧ nB x ≤ 2147483647 := i32any _
theorem nZ0 : nZ 0 = 0 := by decide
theorem nZ1 : nZ 1 = 1 := by decide
theorem nZ_rng (x : Int) : 0 ≤ nZ x ∧ nZ x ≤ 1 := by
  unfold nZ
  rw [show vp_nar .boolean (i32 x) = i32 x &&& 1 from rfl]
  generalize i32 x = y
  have h : (y &&& 1).toBitVec = y.toBitVec &&& 1#32 := rfl
  have h2 : (y &&& 1).toInt = ((y.toBitVec &&& 1#32).toInt) := rfl
  simp only [h2]
  have h3 : y.toBitVec &&& 1#32 = BitVec.setWidth 32 (BitVec.ofBool (y.toBitVec.getLsbD 0)) := BitVec.and_one_eq_setWidth_ofBool_getLsbD
  rw [h3]
  cases y.toBitVec.getLsbD 0 <;> decide
theorem wr_rng (x : Int) : -2147483648 ≤ wr x ∧ wr x ≤ 2147483647 := by have := (i32 x).le_toInt; have := (i32 x).toInt_lt; unfold wr; omega
theorem win {a : Int} {k1 k2 : Int64} (ha : -2147483648 ≤ a ∧ a ≤ 2147483647) (h : k1 ≤ Int64.ofInt a ∧ Int64.ofInt a ≤ k2) : k1.toInt ≤ a ∧ a ≤ k2.toInt := by
  rw [Int64.le_iff_toInt_le, Int64.le_iff_toInt_le, Int64.toInt_ofInt_of_le (by omega) (by omega)] at h
  exact h
theorem win2 {a b c : Int} (ha : -2147483648 ≤ a ∧ a ≤ 2147483647) (hb : -2147483648 ≤ b ∧ b ≤ 2147483647) (hc : -2147483648 ≤ c ∧ c ≤ 2147483647) (h : Int64.ofInt b ≤ Int64.ofInt a ∧ Int64.ofInt a ≤ Int64.ofInt c) : b ≤ a ∧ a ≤ c := by
  rw [Int64.le_iff_toInt_le, Int64.le_iff_toInt_le, Int64.toInt_ofInt_of_le (by omega) (by omega), Int64.toInt_ofInt_of_le (by omega) (by omega), Int64.toInt_ofInt_of_le (by omega) (by omega)] at h
  exact h

theorem sumN_le {n : Nat} {f : Int → Int} {b : Int} (h : ∀ T : Int, 0 ≤ T ∧ T < n → f T ≤ b) : sumN n f ≤ b * n := by
  induction n with
  | zero => simp [sumN]
  | succ n ih =>
    have h1 := ih (fun T hT => h T (by omega)); have h2 := h n (by omega)
    simp only [sumN, Int.natCast_add, Int.mul_add]
    omega
abbrev slo (ra : Nat → Nat) (σ : Sg) (c j : Int) : Int := 8 * c + (gI σ (ra 55) c.toNat + j) % 8
/-- things: in boxes (0 .. 63), free (64), in channels (100 and the slot) -/
def ThI (ra : Nat → Nat) (rm : Nat) (σ : Sg) (own ps bm : Int → Int) (F N : Int) : Prop :=
  LL (fun T => 0 ≤ T ∧ T < 64) (fI σ (ra 65)) (fI σ (ra 46)) (fI σ (ra 47)) bm own ps ∧ FL 64 (fI σ (ra 65)) own ps (gI σ rm 66) F ∧ (∀ a, 0 ≤ own a → 0 ≤ a ∧ a < 12802) ∧ (∀ c j, 0 ≤ c → c < 1100 → 0 ≤ j → j < gI σ (ra 54) c.toNat → own (gI σ (ra 59) (slo ra σ c j).toNat) = 100 + slo ra σ c j) ∧ gI σ rm 67 = sumN 64 bm ∧ F + gI σ rm 67 + sumN 1100 (fI σ (ra 54)) = N
def ThE (ra : Nat → Nat) (rm : Nat) (σ : Sg) : Prop := ∃ own ps bm F, ThI ra rm σ own ps bm F 12802
def ThH (ra : Nat → Nat) (rm : Nat) (σ : Sg) (t : Int) : Prop := ∃ own ps bm F, ThI ra rm σ own ps bm F 12801 ∧ 100 ≤ own t ∧ (∀ c j, 0 ≤ c → c < 1100 → 0 ≤ j → j < gI σ (ra 54) c.toNat → own t ≠ 100 + slo ra σ c j)
theorem FL.keep {z : Int} {nx own ps nx' own' ps' : Int → Int} {fr F : Int} (h : FL z nx own ps fr F) (eo : ∀ a, own' a = z ↔ own a = z) (en : ∀ a, own a = z → nx' a = nx a) (ep : ∀ a, own a = z → ps' a = ps a) : FL z nx' own' ps' fr F := by
  obtain ⟨h1, h2, h3, h4, h5⟩ := h
  refine ⟨fun a ha => ?_, fun a b ha hb => ?_, h3, h4, fun q => ?_⟩
  · have ha' := (eo a).mp ha
    have h6 := h1 a ha'
    rw [en a ha', ep a ha']
    refine ⟨h6.1, h6.2.1, h6.2.2.1, h6.2.2.2.1, fun q => ?_⟩
    have h7 := h6.2.2.2.2 q
    exact ⟨(eo _).mpr h7.1, by rw [ep _ h7.1]; exact h7.2⟩
  · rw [ep a ((eo a).mp ha), ep b ((eo b).mp hb)]; exact h2 a b ((eo a).mp ha) ((eo b).mp hb)
  · have h6 := h5 q
    exact ⟨(eo _).mpr h6.1, by rw [ep _ h6.1]; exact h6.2⟩
section TH
variable {ra : Nat → Nat} {jx : Nat → Nat → Nat} {rm : Nat} {σ σ' : Sg} {own ps bm : Int → Int} {F N T : Int}
theorem ThI.bd (h : ThI ra rm σ own ps bm F N) (hc : ∀ i, gI σ (ra 54) i ≤ 8) : 0 ≤ gI σ rm 67 ∧ N - gI σ rm 67 - 8800 ≤ F ∧ (∀ T : Int, 0 ≤ T ∧ T < 64 → 0 ≤ bm T ∧ bm T ≤ gI σ rm 67) := by
  have hs := sumN_ge (n := 64) (f := bm) (fun T hT => (h.1.2.2 T hT).1)
  have hl := sumN_le (n := 1100) (f := fI σ (ra 54)) (b := 8) (fun T _ => hc _)
  obtain ⟨h1, _, _, _, h5, h6⟩ := h
  exact ⟨by omega, by omega, fun T hT => ⟨(h1.2.2 T hT).1, by rw [h5]; exact hs.2 T hT⟩⟩
theorem ThE.fr {K S : List Nat} (h : ThE ra rm σ) (f : Fr ra jx rm K S σ σ') (hK : ([46, 47, 54, 55, 59, 65].all fun k => !K.contains k) = true) (hS : ([66, 67].all fun k => !S.contains k) = true) : ThE ra rm σ' := by
  have k1 : ∀ k ∈ [46, 47, 54, 55, 59, 65], k ∉ K := fun k hk => by simpa using List.all_eq_true.mp hK k hk
  have k2 : ∀ k ∈ [66, 67], k ∉ S := fun k hk => by simpa using List.all_eq_true.mp hS k hk
  obtain ⟨own, ps, bm, F, h⟩ := h
  refine ⟨own, ps, bm, F, ?_⟩
  unfold ThI fI slo at *
  rw [(f.1 46 (k1 _ (by simp))).1, (f.1 47 (k1 _ (by simp))).1, (f.1 54 (k1 _ (by simp))).1, (f.1 55 (k1 _ (by simp))).1, (f.1 59 (k1 _ (by simp))).1, (f.1 65 (k1 _ (by simp))).1, (f.2.1 66 (k2 _ (by simp))).1, (f.2.1 67 (k2 _ (by simp))).1]
  exact h
theorem ThI.la (h : ThI ra rm σ own ps bm F N) (hT : 0 ≤ T ∧ T < 64) : (bm T = 0 ∧ gI σ (ra 46) T.toNat = -1 ∧ gI σ (ra 47) T.toNat = -1) ∨ (0 < bm T ∧ own (gI σ (ra 46) T.toNat) = T ∧ ps (gI σ (ra 46) T.toNat) = 0 ∧ own (gI σ (ra 47) T.toNat) = T ∧ ps (gI σ (ra 47) T.toNat) + 1 = bm T ∧ (0 ≤ gI σ (ra 47) T.toNat ∧ gI σ (ra 47) T.toNat < 12802) ∧ (0 ≤ gI σ (ra 46) T.toNat ∧ gI σ (ra 46) T.toNat < 12802)) := by
  have h1 := h.1.2.2 T hT
  simp only [fI] at h1
  by_cases q : bm T = 0
  · exact Or.inl ⟨q, h1.2.1 q⟩
  · have h2 := h1.2.2 (by omega)
    exact Or.inr ⟨by omega, h2.1, h2.2.1, h2.2.2.1, h2.2.2.2, h.2.2.1 _ (by omega), h.2.2.1 _ (by omega)⟩
theorem ThI.hd (h : ThI ra rm σ own ps bm F N) (hF : 0 < F) : own (gI σ rm 66) = 64 ∧ 0 ≤ gI σ rm 66 ∧ gI σ rm 66 < 12802 := by
  have h1 := h.2.1.2.2.2.2 hF
  exact ⟨h1.1, h.2.2.1 _ (by omega)⟩
/-- one more in a box -/
theorem ThI.app (h : ThI ra rm σ own ps bm F N) (hT : 0 ≤ T ∧ T < 64) (hF : 0 < F)
    (e1 : ∀ a, 0 ≤ a → gI σ' (ra 65) a.toNat = if a = gI σ rm 66 then -1 else if a = gI σ (ra 47) T.toNat then gI σ rm 66 else gI σ (ra 65) a.toNat)
    (e3 : ∀ S, 0 ≤ S ∧ S < 64 → gI σ' (ra 46) S.toNat = if S = T ∧ gI σ (ra 47) T.toNat = -1 then gI σ rm 66 else gI σ (ra 46) S.toNat)
    (e4 : ∀ S, 0 ≤ S ∧ S < 64 → gI σ' (ra 47) S.toNat = if S = T then gI σ rm 66 else gI σ (ra 47) S.toNat)
    (e6 : gI σ' rm 66 = gI σ (ra 65) (gI σ rm 66).toNat) (e7 : gI σ' rm 67 = gI σ rm 67 + 1) (e8 : ∀ i, gI σ' (ra 54) i = gI σ (ra 54) i) (e9 : ∀ i, gI σ' (ra 55) i = gI σ (ra 55) i) (e10 : ∀ i, gI σ' (ra 59) i = gI σ (ra 59) i) :
    ThI ra rm σ' (up own (gI σ rm 66) T) (up ps (gI σ rm 66) (bm T)) (up bm T (bm T + 1)) (F - 1) N := by
  have h4 := h.hd hF
  obtain ⟨hL, hFr, hr, hs, hb, hn⟩ := h
  have c := LL.app (nx' := fI σ' (ra 65)) (fi' := fI σ' (ra 46)) (la' := fI σ' (ra 47)) (mn' := up bm T (bm T + 1)) (T := T) (r := gI σ rm 66) hL hT h4.2.1 (by omega) e1 e3 e4 (fun S _ => rfl)
  have d := FL.pop (nx' := fI σ' (ra 65)) (ps' := up ps (gI σ rm 66) (bm T)) (w := T) hFr hF (by omega) (fun a ha hn9 => by
    have h5 := hFr.1 a ha
    show gI σ' (ra 65) a.toNat = _
    rw [e1 a h5.1, if_neg hn9, if_neg]
    intro q
    have h6 := hL.2.2 T hT
    by_cases hm : bm T = 0
    · have := (h6.2.1 hm).2; simp only [fI] at this; omega
    · have h8 := h6.2.2 (by have := h6.1; omega)
      have h9 : own a = T := by rw [q]; exact h8.2.2.1
      omega) (fun a ha hn9 => by simp [up, hn9])
  refine ⟨c, ?_, ?_, ?_, ?_, ?_⟩
  · rw [e6]; exact d
  · intro a ha; simp only [up] at ha; split at ha
    · rename_i q; rw [q]; exact h4.2
    · exact hr a ha
  · intro cc j h0 h1 h2 h3
    rw [e8] at h3
    have h9 := hs cc j h0 h1 h2 h3
    simp only [slo, e9, e10] at h9 ⊢
    simp only [up]
    rw [if_neg]
    · exact h9
    · intro q; rw [q] at h9; omega
  · rw [e7, sumN_up (n := 64) (f := bm) (f' := up bm T (bm T + 1)) (T := T) (v := bm T + 1) hT (fun S _ => rfl)]; omega
  · have e : sumN 1100 (fI σ' (ra 54)) = sumN 1100 (fI σ (ra 54)) := by congr 1; funext i; exact e8 _
    rw [e, e7]; omega
/-- from a box to its channel -/
theorem ThI.out (h : ThI ra rm σ own ps bm F N) (hT : 0 ≤ T ∧ T < 64) {t c : Int} (ht : gI σ (ra 46) T.toNat = t) (h0 : t ≠ -1) (hc : 0 ≤ c ∧ c < 1100) (hm : 0 ≤ gI σ (ra 54) c.toNat ∧ gI σ (ra 54) c.toNat < 8)
    (e1 : ∀ i, gI σ' (ra 65) i = gI σ (ra 65) i)
    (e3 : ∀ S, 0 ≤ S ∧ S < 64 → gI σ' (ra 46) S.toNat = if S = T then gI σ (ra 65) t.toNat else gI σ (ra 46) S.toNat)
    (e4 : ∀ S, 0 ≤ S ∧ S < 64 → gI σ' (ra 47) S.toNat = if S = T ∧ gI σ (ra 65) t.toNat = -1 then -1 else gI σ (ra 47) S.toNat)
    (e5 : ∀ S, 0 ≤ S → gI σ' (ra 54) S.toNat = if S = c then gI σ (ra 54) c.toNat + 1 else gI σ (ra 54) S.toNat)
    (e6 : gI σ' rm 66 = gI σ rm 66) (e7 : gI σ' rm 67 = gI σ rm 67 - 1) (e9 : ∀ i, gI σ' (ra 55) i = gI σ (ra 55) i)
    (e10 : ∀ i, 0 ≤ i → gI σ' (ra 59) i.toNat = if i = slo ra σ c (gI σ (ra 54) c.toNat) then t else gI σ (ra 59) i.toNat) :
    ThI ra rm σ' (up own t (100 + slo ra σ c (gI σ (ra 54) c.toNat))) (up (fun a => if own a = T ∧ ps t < ps a then ps a - 1 else ps a) t 0) (up bm T (bm T - 1)) F N := by
  have hla := h.la hT
  rw [ht] at hla
  obtain ⟨hL, hFr, hr, hs, hb, hn⟩ := h
  have hl1 : 0 < bm T ∧ own t = T ∧ ps t = 0 ∧ (0 ≤ t ∧ t < 12802) := by
    rcases hla with q | q
    · omega
    · exact ⟨q.1, q.2.1, q.2.2.1, q.2.2.2.2.2.2⟩
  have hnt := hL.1 t (by rw [hl1.2.1]; exact hT)
  rw [hl1.2.1] at hnt
  simp only [fI] at hnt
  have c9 := LL.cut (nx' := fI σ' (ra 65)) (fi' := fI σ' (ra 46)) (la' := fI σ' (ra 47)) (mn' := up bm T (bm T - 1)) (p := -1) (r := t) (z := 100 + slo ra σ c (gI σ (ra 54) c.toNat)) (w := 0) hL hT hl1.2.1 (by simp only [slo]; omega) (fun _ => hl1.2.2.1) (fun q => absurd rfl q)
    (fun a h1 h2 => by rw [if_neg (by omega)]; exact e1 _) (fun S hS => by show gI σ' (ra 46) S.toNat = _; rw [e3 S hS]; simp) (fun S hS => by
      show gI σ' (ra 47) S.toNat = if S = T ∧ gI σ (ra 47) T.toNat = t then -1 else gI σ (ra 47) S.toNat
      rw [e4 S hS]
      have hi := hL.2.1 (gI σ (ra 47) T.toNat) t
      have hq := hr (-1)
      by_cases q : gI σ (ra 47) T.toNat = t
      · have h2 : gI σ (ra 65) t.toNat = -1 := hnt.2.2.2.1 (by rcases hla with w | w; omega; rw [q] at w; omega)
        rw [q, h2]; simp
      · have h2 : ¬ gI σ (ra 65) t.toNat = -1 := by
          intro w
          have h3 : ps t + 1 = bm T := by
            by_cases w2 : ps t + 1 = bm T
            · exact w2
            · have := (hnt.2.2.2.2 (by omega)).1; rw [w] at this; have := hq (by omega); omega
          exact q (hi (by show 0 ≤ own _ ∧ own _ < 64; omega) (by omega) (by omega))
        simp [q, h2]) (fun S _ => rfl)
  refine ⟨c9, ?_, ?_, ?_, ?_, ?_⟩
  · rw [e6]
    refine FL.keep hFr (fun a => ?_) (fun a _ => e1 _) (fun a ha => ?_)
    · simp only [up, slo]; split
      · rename_i q; rw [q]; omega
      · exact Iff.rfl
    · simp only [up]; rw [if_neg (fun q => by rw [q] at ha; omega), if_neg (by omega)]
  · intro a ha; simp only [up] at ha; split at ha
    · rename_i q; rw [q]; exact hl1.2.2.2
    · exact hr a ha
  · intro cc j h1 h2 h3 h4
    rw [e5 cc h1] at h4
    simp only [slo, e9] at e10 hs ⊢
    rw [e10 _ (by omega)]
    have hm8 := hm.2; have hm0 := hm.1
    by_cases q : cc = c
    · subst q
      rw [if_pos rfl] at h4
      by_cases w : j = gI σ (ra 54) cc.toNat
      · rw [if_pos (by rw [w])]; simp only [up, if_true]; rw [w]
      · rw [if_neg (by omega)]
        have h5 := hs cc j h1 h2 h3 (by omega)
        simp only [up]; rw [if_neg (fun z => by rw [z] at h5; omega)]; exact h5
    · rw [if_neg q] at h4
      rw [if_neg (by omega)]
      have h5 := hs cc j h1 h2 h3 h4
      simp only [up]; rw [if_neg (fun z => by rw [z] at h5; omega)]; exact h5
  · rw [e7, sumN_up (n := 64) (f := bm) (f' := up bm T (bm T - 1)) (T := T) (v := bm T - 1) hT (fun S _ => rfl)]; omega
  · rw [sumN_up (n := 1100) (f := fI σ (ra 54)) (f' := fI σ' (ra 54)) (T := c) (v := gI σ (ra 54) c.toNat + 1) hc (fun S hS => e5 S hS.1), e7]
    simp only [fI]; omega
/-- the first of a channel is taken -/
theorem ThI.take (h : ThI ra rm σ own ps bm F 12802) {c : Int} (hc : 0 ≤ c ∧ c < 1100) (hh : 0 ≤ gI σ (ra 55) c.toNat ∧ gI σ (ra 55) c.toNat < 8) (hm : 0 < gI σ (ra 54) c.toNat ∧ gI σ (ra 54) c.toNat ≤ 8)
    (e1 : ∀ i, gI σ' (ra 65) i = gI σ (ra 65) i) (e3 : ∀ i, gI σ' (ra 46) i = gI σ (ra 46) i) (e4 : ∀ i, gI σ' (ra 47) i = gI σ (ra 47) i)
    (e5 : ∀ S, 0 ≤ S → gI σ' (ra 54) S.toNat = if S = c then gI σ (ra 54) c.toNat - 1 else gI σ (ra 54) S.toNat)
    (e9 : ∀ S, 0 ≤ S → gI σ' (ra 55) S.toNat = if S = c then (gI σ (ra 55) c.toNat + 1) % 8 else gI σ (ra 55) S.toNat)
    (e6 : gI σ' rm 66 = gI σ rm 66) (e7 : gI σ' rm 67 = gI σ rm 67) (e10 : ∀ i, gI σ' (ra 59) i = gI σ (ra 59) i) :
    ThH ra rm σ' (gI σ (ra 59) (8 * c + gI σ (ra 55) c.toNat).toNat) ∧ 0 ≤ gI σ (ra 59) (8 * c + gI σ (ra 55) c.toNat).toNat ∧ gI σ (ra 59) (8 * c + gI σ (ra 55) c.toNat).toNat < 12802 := by
  obtain ⟨hL, hFr, hr, hs, hb, hn⟩ := h
  have h0 := hs c 0 hc.1 hc.2 (by omega) (by omega)
  simp only [slo] at h0 hs
  have e0 : (gI σ (ra 55) c.toNat + 0) % 8 = gI σ (ra 55) c.toNat := by omega
  rw [e0] at h0
  have hs' : ∀ cc j, 0 ≤ cc → cc < 1100 → 0 ≤ j → j < gI σ' (ra 54) cc.toNat → own (gI σ' (ra 59) (slo ra σ' cc j).toNat) = 100 + slo ra σ' cc j ∧ slo ra σ' cc j ≠ 8 * c + gI σ (ra 55) c.toNat := by
    intro cc j h1 h2 h3 h4
    simp only [slo, e10]
    rw [e5 cc h1] at h4
    rw [e9 cc h1]
    by_cases q : cc = c
    · subst q
      rw [if_pos rfl] at h4 ⊢
      have h5 := hs cc (j + 1) h1 h2 (by omega) (by omega)
      have e2 : ((gI σ (ra 55) cc.toNat + 1) % 8 + j) % 8 = (gI σ (ra 55) cc.toNat + (j + 1)) % 8 := by omega
      rw [e2]
      exact ⟨h5, by omega⟩
    · rw [if_neg q] at h4 ⊢
      exact ⟨hs cc j h1 h2 h3 h4, by omega⟩
  refine ⟨⟨own, ps, bm, F, ⟨?_, ?_, hr, fun cc j h1 h2 h3 h4 => (hs' cc j h1 h2 h3 h4).1, ?_, ?_⟩, by rw [h0]; omega, fun cc j h1 h2 h3 h4 => by rw [h0]; have := (hs' cc j h1 h2 h3 h4).2; omega⟩, hr _ (by rw [h0]; omega)⟩
  · have a1 : fI σ' (ra 65) = fI σ (ra 65) := funext fun i => e1 _
    have a2 : fI σ' (ra 46) = fI σ (ra 46) := funext fun i => e3 _
    have a3 : fI σ' (ra 47) = fI σ (ra 47) := funext fun i => e4 _
    rw [a1, a2, a3]; exact hL
  · have a1 : fI σ' (ra 65) = fI σ (ra 65) := funext fun i => e1 _
    rw [a1, e6]; exact hFr
  · rw [e7]; exact hb
  · rw [sumN_up (n := 1100) (f := fI σ (ra 54)) (f' := fI σ' (ra 54)) (T := c) (v := gI σ (ra 54) c.toNat - 1) hc (fun S hS => e5 S hS.1), e7]
    simp only [fI]; omega
/-- what was in hand is free -/
theorem ThH.fre {t : Int} (h : ThH ra rm σ t) (e1 : ∀ a, 0 ≤ a → gI σ' (ra 65) a.toNat = if a = t then gI σ rm 66 else gI σ (ra 65) a.toNat) (e3 : ∀ i, gI σ' (ra 46) i = gI σ (ra 46) i) (e4 : ∀ i, gI σ' (ra 47) i = gI σ (ra 47) i) (e5 : ∀ i, gI σ' (ra 54) i = gI σ (ra 54) i) (e9 : ∀ i, gI σ' (ra 55) i = gI σ (ra 55) i) (e6 : gI σ' rm 66 = t) (e7 : gI σ' rm 67 = gI σ rm 67) (e10 : ∀ i, gI σ' (ra 59) i = gI σ (ra 59) i) : ThE ra rm σ' := by
  obtain ⟨own, ps, bm, F, ⟨hL, hFr, hr, hs, hb, hn⟩, h1, h2⟩ := h
  have ht := hr t (by omega)
  have d := FL.push (nx' := fI σ' (ra 65)) (ps' := ps) (r := t) hFr ht.1 (by omega) (fun a ha => by
    have := hFr.1 a ha
    show gI σ' (ra 65) a.toNat = _
    rw [e1 a this.1, if_neg (fun q => by rw [q] at ha; omega)]) (by show gI σ' (ra 65) t.toNat = _; rw [e1 t ht.1, if_pos rfl]) (fun a _ => rfl)
  refine ⟨up own t 64, up ps t F, bm, F + 1, ?_, ?_, ?_, ?_, ?_, ?_⟩
  · obtain ⟨l1, l2, l3⟩ := hL
    refine ⟨fun a ha => ?_, fun a b ha hab hp => ?_, fun S hS => ?_⟩
    · have hn9 : a ≠ t := fun q => by subst q; simp [up] at ha
      simp only [up, if_neg hn9] at ha ⊢
      have h5 := l1 a ha
      simp only [fI] at h5 ⊢
      rw [e1 a h5.1, if_neg hn9]
      refine ⟨h5.1, h5.2.1, h5.2.2.1, h5.2.2.2.1, fun q => ?_⟩
      have h6 := h5.2.2.2.2 q
      rw [if_neg (fun z => by rw [z] at h6; omega), if_neg (fun z => by rw [z] at h6; omega)]
      exact h6
    · have ha9 : a ≠ t := fun q => by subst q; simp [up] at ha
      simp only [up, if_neg ha9] at ha hab hp
      have hb9 : b ≠ t := fun q => by subst q; simp at hab; omega
      simp only [if_neg hb9] at hab hp
      exact l2 a b ha hab hp
    · have h5 := l3 S hS
      simp only [fI] at h5 ⊢
      rw [e3, e4]
      refine ⟨h5.1, h5.2.1, fun q => ?_⟩
      have h6 := h5.2.2 q
      simp only [up]
      rw [if_neg (fun z => by rw [z] at h6; omega), if_neg (fun z => by rw [z] at h6; omega), if_neg (fun z => by rw [z] at h6; omega), if_neg (fun z => by rw [z] at h6; omega)]
      exact h6
  · rw [e6]; exact d
  · intro a ha; simp only [up] at ha; split at ha
    · rename_i q; rw [q]; exact ht
    · exact hr a ha
  · intro cc j q1 q2 q3 q4
    rw [e5] at q4
    have h5 := hs cc j q1 q2 q3 q4; have h6 := h2 cc j q1 q2 q3 q4
    simp only [slo, e9, e10] at h5 h6 ⊢
    simp only [up]; rw [if_neg (fun z => by rw [z] at h5; omega)]; exact h5
  · rw [e7]; exact hb
  · have e : sumN 1100 (fI σ' (ra 54)) = sumN 1100 (fI σ (ra 54)) := by congr 1; funext i; exact e5 _
    rw [e, e7]; omega
end TH

/-- rows that are held: twelve lists; how many and the last ones by ghosts, hd of them in hand -/
def HeG (ra : Nat → Nat) (rm : Nat) (σ : Sg) (own ps mn la : Int → Int) (hd : Int) : Prop :=
  LL (fun T => 0 ≤ T ∧ T < 12) (fI σ (ra 86)) (fI σ (ra 87)) la mn own ps ∧ FL 12 (fI σ (ra 86)) own ps (gI σ rm 90) (2000 - gI σ rm 91) ∧ (∀ a, 0 ≤ own a → 0 ≤ a ∧ a < 2000) ∧ gI σ rm 91 = sumN 12 mn + hd
def HeE (ra : Nat → Nat) (rm : Nat) (σ : Sg) : Prop := ∃ own ps mn la, HeG ra rm σ own ps mn la 0 ∧ (∀ S, 0 ≤ S ∧ S < 12 → mn S = gI σ (ra 89) S.toNat ∧ la S = gI σ (ra 88) S.toNat)
section HE
variable {ra : Nat → Nat} {jx : Nat → Nat → Nat} {rm : Nat} {σ σ' : Sg} {own ps mn la : Int → Int} {hd T : Int}
theorem HeE.fr {K S : List Nat} (h : HeE ra rm σ) (f : Fr ra jx rm K S σ σ') (hK : ([86, 87, 88, 89].all fun k => !K.contains k) = true) (hS : ([90, 91].all fun k => !S.contains k) = true) : HeE ra rm σ' := by
  have k1 : ∀ k ∈ [86, 87, 88, 89], k ∉ K := fun k hk => by simpa using List.all_eq_true.mp hK k hk
  have k2 : ∀ k ∈ [90, 91], k ∉ S := fun k hk => by simpa using List.all_eq_true.mp hS k hk
  obtain ⟨own, ps, mn, la, h, h2⟩ := h
  refine ⟨own, ps, mn, la, ?_, ?_⟩
  · unfold HeG fI at *
    rw [(f.1 86 (k1 _ (by simp))).1, (f.1 87 (k1 _ (by simp))).1, (f.2.1 90 (k2 _ (by simp))).1, (f.2.1 91 (k2 _ (by simp))).1]
    exact h
  · rw [(f.1 88 (k1 _ (by simp))).1, (f.1 89 (k1 _ (by simp))).1]; exact h2
theorem HeG.bd (h : HeG ra rm σ own ps mn la hd) : gI σ rm 91 ≤ 2000 ∧ hd ≤ gI σ rm 91 ∧ (∀ T : Int, 0 ≤ T ∧ T < 12 → 0 ≤ mn T ∧ mn T + hd ≤ gI σ rm 91) := by
  have hs := sumN_ge (n := 12) (f := mn) (fun T hT => (h.1.2.2 T hT).1)
  obtain ⟨h1, h2, _, h5⟩ := h
  have h3 := h2.2.2.1
  exact ⟨by omega, by omega, fun T hT => ⟨(h1.2.2 T hT).1, by have := hs.2 T hT; omega⟩⟩
theorem HeG.ls (h : HeG ra rm σ own ps mn la hd) (hT : 0 ≤ T ∧ T < 12) : (mn T = 0 ∧ gI σ (ra 87) T.toNat = -1 ∧ la T = -1) ∨ (0 < mn T ∧ own (gI σ (ra 87) T.toNat) = T ∧ ps (gI σ (ra 87) T.toNat) = 0 ∧ own (la T) = T ∧ ps (la T) + 1 = mn T ∧ (0 ≤ la T ∧ la T < 2000) ∧ (0 ≤ gI σ (ra 87) T.toNat ∧ gI σ (ra 87) T.toNat < 2000)) := by
  have h1 := h.1.2.2 T hT
  simp only [fI] at h1
  by_cases q : mn T = 0
  · exact Or.inl ⟨q, h1.2.1 q⟩
  · have h2 := h1.2.2 (by omega)
    exact Or.inr ⟨by omega, h2.1, h2.2.1, h2.2.2.1, h2.2.2.2, h.2.2.1 _ (by omega), h.2.2.1 _ (by omega)⟩
theorem HeG.nd {a : Int} (h : HeG ra rm σ own ps mn la hd) (ho : own a = T) (hT : 0 ≤ T ∧ T < 12) : (0 ≤ a ∧ a < 2000) ∧ 0 ≤ ps a ∧ ps a < mn T ∧ ((ps a + 1 = mn T ∧ gI σ (ra 86) a.toNat = -1) ∨ (ps a + 1 < mn T ∧ own (gI σ (ra 86) a.toNat) = T ∧ ps (gI σ (ra 86) a.toNat) = ps a + 1)) := by
  have h1 := h.1.1 a (by rw [ho]; exact hT)
  have h2 := h.2.2.1 a (by omega)
  rw [ho] at h1
  refine ⟨h2, h1.2.1, h1.2.2.1, ?_⟩
  by_cases q : ps a + 1 = mn T
  · exact Or.inl ⟨q, h1.2.2.2.1 q⟩
  · have q2 : ps a + 1 < mn T := by have := h1.2.2.1; omega
    exact Or.inr ⟨q2, h1.2.2.2.2 q2⟩
/-- a free one is taken in hand -/
theorem HeG.pop (h : HeG ra rm σ own ps mn la hd) (hf : gI σ rm 91 ≠ 2000) (e1 : ∀ i, gI σ' (ra 86) i = gI σ (ra 86) i) (e2 : ∀ i, gI σ' (ra 87) i = gI σ (ra 87) i) (e3 : gI σ' rm 90 = gI σ (ra 86) (gI σ rm 90).toNat) (e4 : gI σ' rm 91 = gI σ rm 91 + 1) : HeG ra rm σ' (up own (gI σ rm 90) 99) ps mn la (hd + 1) := by
  obtain ⟨hL, hF, hr, hs⟩ := h
  have h0 := hF.2.2.2.2 (by have := hF.2.2.1; omega)
  have d := FL.pop (nx' := fI σ' (ra 86)) (ps' := ps) (w := 99) hF (by have := hF.2.2.1; omega) (by omega) (fun a _ _ => e1 _) (fun a _ _ => rfl)
  have a1 : fI σ' (ra 86) = fI σ (ra 86) := funext fun i => e1 _
  have a2 : fI σ' (ra 87) = fI σ (ra 87) := funext fun i => e2 _
  refine ⟨?_, ?_, ?_, by omega⟩
  · rw [a1, a2]
    obtain ⟨l1, l2, l3⟩ := hL
    refine ⟨fun a ha => ?_, fun a b ha hab hp => ?_, fun S hS => ?_⟩
    · have hn9 : a ≠ gI σ rm 90 := fun q => by subst q; simp [up] at ha
      simp only [up, if_neg hn9] at ha ⊢
      have h5 := l1 a ha
      refine ⟨h5.1, h5.2.1, h5.2.2.1, h5.2.2.2.1, fun q => ?_⟩
      have h6 := h5.2.2.2.2 q
      rw [if_neg (fun z => by rw [z] at h6; omega)]
      exact h6
    · have ha9 : a ≠ gI σ rm 90 := fun q => by subst q; simp [up] at ha
      simp only [up, if_neg ha9] at ha hab
      have hb9 : b ≠ gI σ rm 90 := fun q => by subst q; simp at hab; omega
      simp only [if_neg hb9] at hab
      exact l2 a b ha hab hp
    · have h5 := l3 S hS
      refine ⟨h5.1, h5.2.1, fun q => ?_⟩
      have h6 := h5.2.2 q
      simp only [up]
      rw [if_neg (fun z => by rw [z] at h6; omega), if_neg (fun z => by rw [z] at h6; omega)]
      exact h6
  · rw [e3, e4]; have e9 : 2000 - (gI σ rm 91 + 1) = 2000 - gI σ rm 91 - 1 := by omega
    rw [e9, a1]; rw [a1] at d; exact d
  · intro a ha; simp only [up] at ha; split at ha
    · rename_i q; rw [q]; exact hr _ (by omega)
    · exact hr a ha
/-- hung to a list -/
theorem HeG.app {t : Int} (h : HeG ra rm σ own ps mn la hd) (hT : 0 ≤ T ∧ T < 12) (ht : own t = 99)
    (e1 : ∀ a, 0 ≤ a → gI σ' (ra 86) a.toNat = if a = t then -1 else if a = la T then t else gI σ (ra 86) a.toNat)
    (e3 : ∀ S, 0 ≤ S ∧ S < 12 → gI σ' (ra 87) S.toNat = if S = T ∧ la T = -1 then t else gI σ (ra 87) S.toNat)
    (e6 : gI σ' rm 90 = gI σ rm 90) (e7 : gI σ' rm 91 = gI σ rm 91) :
    HeG ra rm σ' (up own t T) (up ps t (mn T)) (up mn T (mn T + 1)) (up la T t) (hd - 1) := by
  obtain ⟨hL, hF, hr, hs⟩ := h
  have h4 := hr t (by omega)
  have c := LL.app (nx' := fI σ' (ra 86)) (fi' := fI σ' (ra 87)) (la' := up la T t) (mn' := up mn T (mn T + 1)) (T := T) (r := t) hL hT h4.1 (by omega) e1 e3 (fun S _ => rfl) (fun S _ => rfl)
  refine ⟨c, ?_, ?_, ?_⟩
  · rw [e6, e7]
    refine FL.keep hF (fun a => ?_) (fun a ha => ?_) (fun a ha => ?_)
    · simp only [up]; split
      · rename_i q; rw [q]; omega
      · exact Iff.rfl
    · have h5 := hF.1 a ha
      show gI σ' (ra 86) a.toNat = _
      rw [e1 a h5.1, if_neg (fun q => by rw [q] at ha; omega), if_neg]
      intro q
      have h6 := hL.2.2 T hT
      by_cases hm : mn T = 0
      · have := (h6.2.1 hm).2; omega
      · have h8 := h6.2.2 (by have := h6.1; omega)
        have h9 : own a = T := by rw [q]; exact h8.2.2.1
        omega
    · simp only [up]; rw [if_neg (fun q => by rw [q] at ha; omega)]
  · intro a ha; simp only [up] at ha; split at ha
    · rename_i q; rw [q]; exact h4
    · exact hr a ha
  · rw [e7, sumN_up (n := 12) (f := mn) (f' := up mn T (mn T + 1)) (T := T) (v := mn T + 1) hT (fun S _ => rfl)]; omega
/-- cut out of a list, in hand; p is the one before, -1 for none -/
theorem HeG.cut {r p : Int} (h : HeG ra rm σ own ps mn la hd) (hT : 0 ≤ T ∧ T < 12) (ho : own r = T) (h4 : p = -1 → ps r = 0) (h5 : p ≠ -1 → own p = T ∧ ps p + 1 = ps r)
    (e1 : ∀ a, 0 ≤ a → a ≠ r → gI σ' (ra 86) a.toNat = if a = p then gI σ (ra 86) r.toNat else gI σ (ra 86) a.toNat)
    (e3 : ∀ S, 0 ≤ S ∧ S < 12 → gI σ' (ra 87) S.toNat = if S = T ∧ p = -1 then gI σ (ra 86) r.toNat else gI σ (ra 87) S.toNat)
    (e6 : gI σ' rm 90 = gI σ rm 90) (e7 : gI σ' rm 91 = gI σ rm 91) :
    HeG ra rm σ' (up own r 99) (up (fun a => if own a = T ∧ ps r < ps a then ps a - 1 else ps a) r 0) (up mn T (mn T - 1)) (fun S => if S = T ∧ la T = r then p else la S) (hd + 1) := by
  obtain ⟨hL, hF, hr, hs⟩ := h
  have hr1 := hr r (by omega)
  have c := LL.cut (nx' := fI σ' (ra 86)) (fi' := fI σ' (ra 87)) (la' := fun S => if S = T ∧ la T = r then p else la S) (mn' := up mn T (mn T - 1)) (p := p) (z := 99) hL hT ho (w := 0) (by omega) h4 h5 e1 e3 (fun S _ => rfl) (fun S _ => rfl)
  refine ⟨c, ?_, ?_, ?_⟩
  · rw [e6, e7]
    refine FL.keep hF (fun a => ?_) (fun a ha => ?_) (fun a ha => ?_)
    · simp only [up]; split
      · rename_i q; rw [q]; omega
      · exact Iff.rfl
    · have := hF.1 a ha
      show gI σ' (ra 86) a.toNat = _
      rw [e1 a this.1 (fun q => by rw [q] at ha; omega), if_neg (fun q => by subst q; have := h5 (by omega); omega)]
    · simp only [up]; rw [if_neg (fun q => by rw [q] at ha; omega), if_neg (by omega)]
  · intro a ha; simp only [up] at ha; split at ha
    · rename_i q; rw [q]; exact hr1
    · exact hr a ha
  · rw [e7, sumN_up (n := 12) (f := mn) (f' := up mn T (mn T - 1)) (T := T) (v := mn T - 1) hT (fun S _ => rfl)]; omega
/-- from the hand to the free ones -/
theorem HeG.push {t : Int} (h : HeG ra rm σ own ps mn la hd) (ht : own t = 99)
    (e1 : ∀ a, 0 ≤ a → gI σ' (ra 86) a.toNat = if a = t then gI σ rm 90 else gI σ (ra 86) a.toNat) (e3 : ∀ i, gI σ' (ra 87) i = gI σ (ra 87) i) (e6 : gI σ' rm 90 = t) (e7 : gI σ' rm 91 = gI σ rm 91 - 1) :
    HeG ra rm σ' (up own t 12) (up ps t (2000 - gI σ rm 91)) mn la (hd - 1) := by
  obtain ⟨hL, hFr, hr, hs⟩ := h
  have h4 := hr t (by omega)
  have d := FL.push (nx' := fI σ' (ra 86)) (ps' := ps) (r := t) hFr h4.1 (by omega) (fun a ha => by
    have := hFr.1 a ha
    show gI σ' (ra 86) a.toNat = _
    rw [e1 a this.1, if_neg (fun q => by rw [q] at ha; omega)]) (by show gI σ' (ra 86) t.toNat = _; rw [e1 t h4.1, if_pos rfl]) (fun a _ => rfl)
  refine ⟨?_, ?_, ?_, by omega⟩
  · obtain ⟨l1, l2, l3⟩ := hL
    refine ⟨fun a ha => ?_, fun a b ha hab hp => ?_, fun S hS => ?_⟩
    · have hn9 : a ≠ t := fun q => by subst q; simp [up] at ha
      simp only [up, if_neg hn9] at ha ⊢
      have h5 := l1 a ha
      simp only [fI] at h5 ⊢
      rw [e1 a h5.1, if_neg hn9]
      refine ⟨h5.1, h5.2.1, h5.2.2.1, h5.2.2.2.1, fun q => ?_⟩
      have h6 := h5.2.2.2.2 q
      rw [if_neg (fun z => by rw [z] at h6; omega), if_neg (fun z => by rw [z] at h6; omega)]
      exact h6
    · have ha9 : a ≠ t := fun q => by subst q; simp [up] at ha
      simp only [up, if_neg ha9] at ha hab hp
      have hb9 : b ≠ t := fun q => by subst q; simp at hab; omega
      simp only [if_neg hb9] at hab hp
      exact l2 a b ha hab hp
    · have h5 := l3 S hS
      simp only [fI] at h5 ⊢
      rw [e3]
      refine ⟨h5.1, h5.2.1, fun q => ?_⟩
      have h6 := h5.2.2 q
      simp only [up]
      rw [if_neg (fun z => by rw [z] at h6; omega), if_neg (fun z => by rw [z] at h6; omega), if_neg (fun z => by rw [z] at h6; omega), if_neg (fun z => by rw [z] at h6; omega)]
      exact h6
  · rw [e6, e7]; have e9 : 2000 - (gI σ rm 91 - 1) = 2000 - gI σ rm 91 + 1 := by omega
    rw [e9]; exact d
  · intro a ha; simp only [up] at ha; split at ha
    · rename_i q; rw [q]; exact h4
    · exact hr a ha
end HE
section HE2
variable {ra : Nat → Nat} {jx : Nat → Nat → Nat} {rm : Nat} {σ σ' : Sg} {own ps mn la : Int → Int} {hd T : Int}
/-- the first of a list becomes free -/
theorem HeG.let1 (g : Geo ra jx rm) {t : Int} (h : HeG ra rm σ own ps mn la hd) (hT : 0 ≤ T ∧ T < 12) (ht : gI σ (ra 87) T.toNat = t) (h0 : t ≠ -1)
    (e1 : ∀ a, 0 ≤ a → gI σ' (ra 86) a.toNat = if a = t then gI σ rm 90 else gI σ (ra 86) a.toNat)
    (e3 : ∀ S, 0 ≤ S ∧ S < 12 → gI σ' (ra 87) S.toNat = if S = T then gI σ (ra 86) t.toNat else gI σ (ra 87) S.toNat) (e6 : gI σ' rm 90 = t) (e7 : gI σ' rm 91 = gI σ rm 91 - 1) :
    ∃ own' ps' la', HeG ra rm σ' own' ps' (up mn T (mn T - 1)) la' hd ∧ (∀ S, S ≠ T → la' S = la S) := by
  obtain ⟨g1, g2, g3, g4, g5, g6, g7, g8⟩ := g
  have hls := h.ls hT
  rw [ht] at hls
  have hl : own t = T ∧ ps t = 0 ∧ (0 ≤ t ∧ t < 2000) := by
    rcases hls with q | q
    · omega
    · exact ⟨q.2.1, q.2.2.1, q.2.2.2.2.2.2⟩
  have c := h.cut (σ' := pI σ (ra 87) T.toNat (gI σ (ra 86) t.toNat)) (r := t) (p := -1) hT hl.1 (fun _ => hl.2.1) (fun q => absurd rfl q)
    (fun a h1 h2 => by simp only [rII, g1]; simp; omega) (fun S hS => by
      simp only [rII, g1, true_and, and_true]
      by_cases q : S = T
      · rw [if_pos (by rw [q]), if_pos q]
      · rw [if_neg (by omega), if_neg q]) (by simp only [rII, g3]; simp) (by simp only [rII, g3]; simp)
  have d := c.push (σ' := pI (pI (pI (pI σ (ra 87) T.toNat (gI σ (ra 86) t.toNat)) (ra 86) t.toNat (gI σ rm 90)) rm 90 t) rm 91 (gI σ rm 91 - 1)) (t := t) (by simp [up]) (fun a ha => by
      simp only [rII, g1, g2, g3]
      by_cases q : a = t
      · subst q; simp
      · rw [if_neg q]; simp; intro w; omega) (fun i => by simp only [rII, g1, g2]; simp) (by simp only [rII]; simp) (by simp only [rII, g1, g2, g3]; simp)
  have e : hd + 1 - 1 = hd := by omega
  rw [e] at d
  refine ⟨_, up (up (fun a => if own a = T ∧ ps t < ps a then ps a - 1 else ps a) t 0) t (2000 - gI (pI σ (ra 87) T.toNat (gI σ (ra 86) t.toNat)) rm 91), _, ⟨?_, ?_, d.2.2.1, ?_⟩, fun S hS => by show (if S = T ∧ la T = t then -1 else la S) = la S; rw [if_neg (fun q => hS q.1)]⟩
  · obtain ⟨⟨l1, l2, l3⟩, -, -, -⟩ := d
    refine ⟨fun a ha => ?_, l2, fun S hS => ?_⟩
    · have h5 := l1 a ha
      simp only [fI, rII, g1, g2, g3] at h5 ⊢
      rw [e1 a h5.1]
      by_cases q : a = t
      · subst q; simp at h5 ⊢; exact h5
      · have q2 : ¬ a.toNat = t.toNat := by omega
        simp [q, q2] at h5 ⊢; exact h5
    · have h5 := l3 S hS
      simp only [fI, rII, g1, g2, g3] at h5 ⊢
      rw [e3 S hS]
      by_cases q : S = T
      · subst q; simp at h5 ⊢; exact h5
      · have q2 : ¬ S.toNat = T.toNat := by omega
        simp [q, q2] at h5 ⊢; exact h5
  · have d2 := d.2.1
    simp only [rII, g1, g2, g3] at d2
    simp at d2
    rw [e6, e7]
    refine FL.keep d2 (fun a => Iff.rfl) (fun a ha => ?_) (fun a _ => by simp only [rII, g3]; simp)
    have h5 := d2.1 a ha
    simp only [fI, rII, g1, g2, g3]
    rw [e1 a h5.1]
    by_cases q : a = t
    · subst q; simp
    · have q2 : ¬ a.toNat = t.toNat := by omega
      simp [q, q2]
  · have d3 := d.2.2.2
    simp only [rII, g1, g2, g3] at d3
    simp at d3
    rw [e7]; exact d3
end HE2
section HE3
variable {ra : Nat → Nat} {jx : Nat → Nat → Nat} {rm : Nat} {σ σ' : Sg} {own ps mn la : Int → Int} {hd T : Int}
/-- all lists but T as their arrays say -/
abbrev HeA (ra : Nat → Nat) (σ : Sg) (mn la : Int → Int) (T : Int) : Prop := ∀ S, 0 ≤ S ∧ S < 12 → S ≠ T → mn S = gI σ (ra 89) S.toNat ∧ la S = gI σ (ra 88) S.toNat
theorem HeG.let2 (g : Geo ra jx rm) {fu : Nat} (h : HeG ra rm σ own ps mn la 0 ∧ HeA ra σ mn la T) (hm : (mn T).toNat < fu + 1) (hT : 0 ≤ T ∧ T < 12) (h0 : ¬ gI σ (ra 87) T.toNat = -1)
    (e1 : ∀ a, 0 ≤ a → gI σ' (ra 86) a.toNat = if a = gI σ (ra 87) T.toNat then gI σ rm 90 else gI σ (ra 86) a.toNat)
    (e3 : ∀ S, 0 ≤ S ∧ S < 12 → gI σ' (ra 87) S.toNat = if S = T then gI σ (ra 86) (gI σ (ra 87) T.toNat).toNat else gI σ (ra 87) S.toNat) (e6 : gI σ' rm 90 = gI σ (ra 87) T.toNat) (e7 : gI σ' rm 91 = gI σ rm 91 - 1) (e8 : ∀ i, gI σ' (ra 88) i = gI σ (ra 88) i) (e9 : ∀ i, gI σ' (ra 89) i = gI σ (ra 89) i) :
    ∃ own ps mn la, (HeG ra rm σ' own ps mn la 0 ∧ HeA ra σ' mn la T) ∧ (mn T).toNat < fu := by
  obtain ⟨o2, p2, l2, k1, k2⟩ := h.1.let1 g (σ' := σ') hT rfl h0 e1 e3 e6 e7
  have hls := h.1.ls hT
  refine ⟨o2, p2, _, l2, ⟨k1, fun S hS hn => ?_⟩, ?_⟩
  · have := h.2 S hS hn
    rw [e8, e9, k2 S hn]; simp only [up, if_neg hn]; exact this
  · simp only [up, if_true]; omega
/-- an empty list is as its arrays say -/
theorem HeG.fin (h : HeG ra rm σ own ps mn la 0 ∧ HeA ra σ mn la T) (hT : 0 ≤ T ∧ T < 12) (h0 : gI σ (ra 87) T.toNat = -1)
    (e1 : ∀ i, gI σ' (ra 86) i = gI σ (ra 86) i) (e2 : ∀ i, gI σ' (ra 87) i = gI σ (ra 87) i) (e3 : gI σ' rm 90 = gI σ rm 90) (e4 : gI σ' rm 91 = gI σ rm 91)
    (e5 : ∀ S, 0 ≤ S ∧ S < 12 → gI σ' (ra 88) S.toNat = if S = T then -1 else gI σ (ra 88) S.toNat) (e6 : ∀ S, 0 ≤ S ∧ S < 12 → gI σ' (ra 89) S.toNat = if S = T then 0 else gI σ (ra 89) S.toNat) : HeE ra rm σ' := by
  have hls := h.1.ls hT
  refine ⟨own, ps, mn, la, ?_, fun S hS => ?_⟩
  · have a1 : fI σ' (ra 86) = fI σ (ra 86) := funext fun i => e1 _
    have a2 : fI σ' (ra 87) = fI σ (ra 87) := funext fun i => e2 _
    unfold HeG at *
    rw [a1, a2, e3, e4]; exact h.1
  · rw [e5 S hS, e6 S hS]
    by_cases q : S = T
    · subst q; rw [if_pos rfl, if_pos rfl]; rcases hls with w | w
      · exact ⟨w.1, w.2.2⟩
      · omega
    · rw [if_neg q, if_neg q]; exact h.2 S hS q
end HE3
theorem HeG.pass {ra : Nat → Nat} {rm : Nat} {σ σ' : Sg} {own ps mn la o p : Int → Int} {T V t hd : Int} {fu : Nat} (q : HeG ra rm σ' o p (up (up mn T (mn T - 1)) V (up mn T (mn T - 1) V + 1)) (up (fun S => if S = T ∧ la T = t then -1 else la S) V t) hd ∧ gI σ' (ra 88) V.toNat = t ∧ gI σ' (ra 89) V.toNat = up mn T (mn T - 1) V + 1 ∧ (∀ S, 0 ≤ S ∧ S < 12 → S ≠ V → gI σ' (ra 88) S.toNat = gI σ (ra 88) S.toNat ∧ gI σ' (ra 89) S.toNat = gI σ (ra 89) S.toNat)) (hd0 : hd = 0) (h : HeG ra rm σ own ps mn la 0 ∧ HeA ra σ mn la T) (hm : (mn T).toNat < fu + 1) (h1 : 0 ≤ T ∧ T < 12) (h2 : 0 ≤ V ∧ V < 12) (h12 : T ≠ V) (h0 : ¬ gI σ (ra 87) T.toNat = -1) :
    ∃ own ps mn la, (HeG ra rm σ' own ps mn la 0 ∧ HeA ra σ' mn la T) ∧ (mn T).toNat < fu := by
  subst hd0
  have hls := h.1.ls h1
  refine ⟨o, p, _, _, ⟨q.1, fun S hS hn => ?_⟩, ?_⟩
  · by_cases w : S = V
    · subst w; rw [q.2.1, q.2.2.1]; simp [up]
    · have h5 := q.2.2.2 S hS w; have h6 := h.2 S hS hn
      rw [h5.1, h5.2]
      simp only [up, if_neg w, if_neg hn]
      rw [if_neg (fun z => hn z.1)]; exact h6
  · simp only [up, if_neg h12, if_true]; omega
theorem HeG.pend {ra : Nat → Nat} {rm : Nat} {σ σ' : Sg} {mn la o p : Int → Int} {V t hd : Int} (q : HeG ra rm σ' o p (up mn V (mn V + 1)) (up la V t) hd ∧ gI σ' (ra 88) V.toNat = t ∧ gI σ' (ra 89) V.toNat = mn V + 1 ∧ (∀ S, 0 ≤ S ∧ S < 12 → S ≠ V → gI σ' (ra 88) S.toNat = gI σ (ra 88) S.toNat ∧ gI σ' (ra 89) S.toNat = gI σ (ra 89) S.toNat)) (hd0 : hd = 0) (hA : ∀ S, 0 ≤ S ∧ S < 12 → mn S = gI σ (ra 89) S.toNat ∧ la S = gI σ (ra 88) S.toNat) : HeE ra rm σ' := by
  subst hd0
  refine ⟨o, p, _, _, q.1, fun S hS => ?_⟩
  by_cases w : S = V
  · subst w; rw [q.2.1, q.2.2.1]; simp [up]
  · have h5 := q.2.2.2 S hS w; have h6 := hA S hS
    rw [h5.1, h5.2]
    simp only [up, if_neg w]; exact h6

theorem grp16 (w : UInt64) (h : w.toNat < 16) : 0 ≤ w.toInt64.toInt32.toInt ∧ w.toInt64.toInt32.toInt ≤ 15 := by
  have h2 : w.toNat = 0 ∨ w.toNat = 1 ∨ w.toNat = 2 ∨ w.toNat = 3 ∨ w.toNat = 4 ∨ w.toNat = 5 ∨ w.toNat = 6 ∨ w.toNat = 7 ∨ w.toNat = 8 ∨ w.toNat = 9 ∨ w.toNat = 10 ∨ w.toNat = 11 ∨ w.toNat = 12 ∨ w.toNat = 13 ∨ w.toNat = 14 ∨ w.toNat = 15 := by omega
  have e : w = UInt64.ofNat w.toNat := (UInt64.ofNat_toNat).symm
  rcases h2 with q | q | q | q | q | q | q | q | q | q | q | q | q | q | q | q <;> (rw [e, q]; decide)
theorem grp (u : UInt64) : 0 ≤ (u >>> ((i32 60).toInt64.toUInt64 &&& Int64.toUInt64 63)).toInt64.toInt32.toInt ∧ (u >>> ((i32 60).toInt64.toUInt64 &&& Int64.toUInt64 63)).toInt64.toInt32.toInt ≤ 15 := by
  apply grp16
  have e : ((i32 60).toInt64.toUInt64 &&& Int64.toUInt64 63) = 60 := by decide
  rw [e, UInt64.toNat_shiftRight]
  have h1 : u.toNat < 2 ^ 64 := UInt64.toNat_lt u
  have e2 : (60 : UInt64).toNat % 64 = 60 := by decide
  rw [e2, Nat.shiftRight_eq_div_pow]
  omega
theorem i64_ne {x : Int} (h : -2147483648 ≤ x ∧ x ≤ 2147483647) (h0 : x ≠ 0) : Int64.ofInt x ≠ 0 := by
  intro q
  have h2 := congrArg Int64.toInt q
  rw [Int64.toInt_ofInt_of_le (by omega) (by omega)] at h2
  exact h0 h2
theorem part_lt {r p : Int} (hr : 0 ≤ r ∧ r ≤ 15) (hp : 1 ≤ p ∧ p ≤ 4) : 0 ≤ r * p ∧ r * p ≤ 60 ∧ 0 ≤ r * p / 16 ∧ r * p / 16 < p := by
  have h : p = 1 ∨ p = 2 ∨ p = 3 ∨ p = 4 := by omega
  rcases h with q | q | q | q <;> subst q <;> omega

/-- what a pattern's unfinished ones have gone through -/
def MtI (ra : Nat → Nat) (jx : Nat → Nat → Nat) (ja : Nat) (σ : Sg) (own : Int → Int) : Prop :=
  ∀ a, 0 ≤ own a ∧ own a < 64 → gI σ (jx ja 2) (gI σ (ra 38) (own a).toNat).toNat = 8 → gI σ (ra 68) a.toNat = 2 → 1 ≤ (gJ σ (ra 72) a.toNat).toInt ∧ (gJ σ (ra 72) a.toNat).toInt < gI σ (jx ja 12) (gI σ (ra 38) (own a).toNat).toNat
/-- the records of a run of the job ja -/
def RecE (ra : Nat → Nat) (jx : Nat → Nat → Nat) (rm ja : Nat) (σ : Sg) : Prop := ∃ own ps, RecI ra rm σ own ps ∧ MtI ra jx ja σ own
section MT
variable {ra : Nat → Nat} {jx : Nat → Nat → Nat} {rm ja : Nat} {σ σ' : Sg} {own ps ps' : Int → Int} {K S : List Nat} {r T w : Int}
theorem MtI.fr (h : MtI ra jx ja σ own) (f : Fr ra jx rm K S σ σ') (hK : ([38, 68, 72].all fun k => !K.contains k) = true) : MtI ra jx ja σ' own := by
  have k1 : ∀ k ∈ [38, 68, 72], k ∉ K := fun k hk => by simpa using List.all_eq_true.mp hK k hk
  unfold MtI at *
  rw [(f.1 38 (k1 _ (by simp))).1, (f.1 68 (k1 _ (by simp))).1, (f.1 72 (k1 _ (by simp))).2, (f.2.2.1 ja 2).1, (f.2.2.1 ja 12).1]
  exact h
theorem MtI.less (h : MtI ra jx ja σ own) : MtI ra jx ja σ (up own r 64) := by
  intro a ha
  have hn : a ≠ r := fun q => by subst q; simp [up] at ha
  simp only [up, if_neg hn] at ha ⊢
  exact h a ha
theorem RecE.fr (h : RecE ra jx rm ja σ) (f : Fr ra jx rm K S σ σ') (hK : ([38, 68, 69, 72, 75, 76, 77, 78].all fun k => !K.contains k) = true) (hS : ([79, 80].all fun k => !S.contains k) = true) : RecE ra jx rm ja σ' := by
  have k1 : ∀ k ∈ [38, 68, 69, 72, 75, 76, 77, 78], k ∉ K := fun k hk => by simpa using List.all_eq_true.mp hK k hk
  have k2 : ∀ k ∈ [79, 80], k ∉ S := fun k hk => by simpa using List.all_eq_true.mp hS k hk
  obtain ⟨own, ps, h1, h2⟩ := h
  refine ⟨own, ps, h1.fr f (fun k hk => k1 k (by simp at hk ⊢; omega)) k2, h2.fr f ?_⟩
  simp only [List.all_eq_true, List.mem_cons, List.not_mem_nil, or_false] at hK ⊢
  intro k hk; exact hK k (by omega)
/-- behind a record of a task that is no pattern's, or of a good place -/
theorem MtI.more (h : MtI ra jx ja σ own) (f : Fr ra jx rm K S σ σ') (h38 : (!K.contains 38) = true) (hT : 0 ≤ T ∧ T < 64) {v2 : Int} {v7 : Int64}
    (e1 : gI σ' (ra 68) r.toNat = v2) (e2 : gJ σ' (ra 72) r.toNat = v7) (e3 : ∀ a, 0 ≤ a → a ≠ r → gI σ' (ra 68) a.toNat = gI σ (ra 68) a.toNat ∧ gJ σ' (ra 72) a.toNat = gJ σ (ra 72) a.toNat)
    (hn : ∀ a, 0 ≤ own a ∧ own a < 64 → 0 ≤ a)
    (hk : gI σ (jx ja 2) (gI σ (ra 38) T.toNat).toNat = 8 → v2 = 2 → 1 ≤ v7.toInt ∧ v7.toInt < gI σ (jx ja 12) (gI σ (ra 38) T.toNat).toNat) : MtI ra jx ja σ' (up own r T) := by
  intro a ha
  rw [(f.1 38 (by simpa using h38)).1, (f.2.2.1 ja 2).1, (f.2.2.1 ja 12).1]
  by_cases q : a = r
  · subst q; simp only [up, if_true] at ha ⊢; rw [e1, e2]; exact hk
  · simp only [up, if_neg q] at ha ⊢
    have h5 := e3 a (hn a ha) q
    rw [h5.1, h5.2]; exact h a ha
abbrev lmm (ra : Nat → Nat) (σ : Sg) (T : Int) (ps : Int → Int) (v : Int) : Nat := (if v < 0 then 0 else gI σ (ra 78) T.toNat - ps v).toNat
/-- a step behind drop: the next one -/
theorem stepD {fu : Nat} (hrec : RecI ra rm σ own ps) (hmt : MtI ra jx ja σ own) (hT : 0 ≤ T ∧ T < 64) (ho : own r = T) (p : RecI ra rm σ' (up own r 64) (up (fun a => if own a = T ∧ ps r < ps a then ps a - 1 else ps a) r w) ∧ gI σ' (ra 78) T.toNat = gI σ (ra 78) T.toNat - 1) (f : Fr ra jx rm [75, 76, 77, 78] [79, 80] σ σ') (hm : lmm ra σ T ps r < fu + 1) :
    ∃ own ps, ((RecI ra rm σ' own ps ∧ MtI ra jx ja σ' own) ∧ (gI σ (ra 75) r.toNat = -1 ∨ own (gI σ (ra 75) r.toNat) = T)) ∧ lmm ra σ' T ps (gI σ (ra 75) r.toNat) < fu := by
  have hn := hrec.nd ho hT
  refine ⟨_, _, ⟨⟨p.1, (hmt.fr f (by decide)).less⟩, ?_⟩, ?_⟩
  · rcases hn.2.2.2 with q | q
    · exact Or.inl q.2
    · refine Or.inr ?_
      have : gI σ (ra 75) r.toNat ≠ r := fun z => by have := q.2.2; rw [z] at this; omega
      simp only [up, if_neg this]; exact q.2.1
  · simp only [lmm] at hm ⊢
    rw [if_neg (by omega)] at hm
    rw [p.2]
    rcases hn.2.2.2 with q | q
    · rw [if_pos (by omega)]; omega
    · have h9 : gI σ (ra 75) r.toNat ≠ r := fun z => by have := q.2.2; rw [z] at this; omega
      split
      · omega
      · simp only [up, if_neg h9]; rw [if_pos ⟨q.2.1, by omega⟩]; omega
/-- a step without -/
theorem stepK {fu : Nat} (hrec : RecI ra rm σ own ps) (hmt : MtI ra jx ja σ own) (hT : 0 ≤ T ∧ T < 64) (ho : own r = T) (hm : lmm ra σ T ps r < fu + 1) :
    ∃ own ps, ((RecI ra rm σ own ps ∧ MtI ra jx ja σ own) ∧ (gI σ (ra 75) r.toNat = -1 ∨ own (gI σ (ra 75) r.toNat) = T)) ∧ lmm ra σ T ps (gI σ (ra 75) r.toNat) < fu := by
  have hn := hrec.nd ho hT
  refine ⟨own, ps, ⟨⟨hrec, hmt⟩, ?_⟩, ?_⟩
  · rcases hn.2.2.2 with q | q
    · exact Or.inl q.2
    · exact Or.inr q.2.1
  · simp only [lmm] at hm ⊢
    rw [if_neg (by omega)] at hm
    rcases hn.2.2.2 with q | q
    · rw [if_pos (by omega)]; omega
    · split
      · omega
      · omega
end MT

/-- how many outputs are among the first n operators -/
def cO (jx : Nat → Nat → Nat) (ja : Nat) (σ : Sg) (n : Int) : Int := sumN n.toNat (fun k => if gI σ (jx ja 2) k.toNat = 11 then 1 else 0)
theorem cO_succ {jx : Nat → Nat → Nat} {ja : Nat} {σ : Sg} {n : Int} (h : 0 ≤ n) : cO jx ja σ (n + 1) = cO jx ja σ n + (if gI σ (jx ja 2) n.toNat = 11 then 1 else 0) := by
  unfold cO
  have e : (n + 1).toNat = n.toNat + 1 := by omega
  have e2 : ((n.toNat : Nat) : Int) = n := by omega
  rw [e]; simp only [sumN, e2]
theorem cO_zero {jx : Nat → Nat → Nat} {ja : Nat} {σ : Sg} : cO jx ja σ 0 = 0 := rfl
theorem cO_mono {jx : Nat → Nat → Nat} {ja : Nat} {σ : Sg} {n m : Int} (h : 0 ≤ n) (hm : n ≤ m) : 0 ≤ cO jx ja σ n ∧ cO jx ja σ n ≤ cO jx ja σ m := by
  have h0 : ∀ a : Nat, ∀ b : Nat, a ≤ b → 0 ≤ cO jx ja σ a ∧ cO jx ja σ a ≤ cO jx ja σ b := by
    intro a b
    induction b with
    | zero => intro q; have : a = 0 := by omega
              subst this; exact ⟨Int.le_refl _, Int.le_refl _⟩
    | succ b ih =>
      intro q
      have e := cO_succ (jx := jx) (ja := ja) (σ := σ) (n := (b : Int)) (by omega)
      have e2 : (((b + 1 : Nat)) : Int) = (b : Int) + 1 := by omega
      rw [e2, e]
      by_cases w : a = b + 1
      · have h3 : 0 ≤ cO jx ja σ (b : Int) := by
          have : ∀ c : Nat, 0 ≤ cO jx ja σ (c : Int) := by
            intro c
            induction c with
            | zero => exact Int.le_refl _
            | succ c ihc => have e3 := cO_succ (jx := jx) (ja := ja) (σ := σ) (n := (c : Int)) (by omega)
                            have e4 : (((c + 1 : Nat)) : Int) = (c : Int) + 1 := by omega
                            rw [e4, e3]; split <;> omega
          exact this b
        subst w
        rw [e2, e]; split <;> omega
      · have := ih (by omega); split <;> omega
  have := h0 n.toNat m.toNat (by omega)
  have e1 : ((n.toNat : Nat) : Int) = n := by omega
  have e2 : ((m.toNat : Nat) : Int) = m := by omega
  rw [e1, e2] at this
  exact this
theorem i64_le {a b : Int64} (h : ¬ a > b) : a.toInt ≤ b.toInt := by
  have h2 : ¬ b < a := h
  rw [Int64.lt_iff_toInt_lt] at h2; omega
section ST
variable {ra : Nat → Nat} {jx : Nat → Nat → Nat} {rm ja : Nat} {σ σ' : Sg} {own ps : Int → Int} {r T w : Int}
theorem stepDT {fu : Nat} (hrec : RecI ra rm σ own ps) (hmt : MtI ra jx ja σ own) (ht : ThE ra rm σ) (hT : 0 ≤ T ∧ T < 64) (ho : own r = T) (p : RecI ra rm σ' (up own r 64) (up (fun a => if own a = T ∧ ps r < ps a then ps a - 1 else ps a) r w) ∧ gI σ' (ra 78) T.toNat = gI σ (ra 78) T.toNat - 1) (f : Fr ra jx rm [75, 76, 77, 78] [79, 80] σ σ') (hm : lmm ra σ T ps r < fu + 1) :
    ∃ own ps, (((RecI ra rm σ' own ps ∧ MtI ra jx ja σ' own) ∧ ThE ra rm σ') ∧ (gI σ (ra 75) r.toNat = -1 ∨ own (gI σ (ra 75) r.toNat) = T)) ∧ lmm ra σ' T ps (gI σ (ra 75) r.toNat) < fu := by
  obtain ⟨o, q, ⟨h1, h2⟩, h3⟩ := stepD hrec hmt hT ho p f hm
  exact ⟨o, q, ⟨⟨h1, ht.fr f (by decide) (by decide)⟩, h2⟩, h3⟩
theorem stepKT {fu : Nat} (hrec : RecI ra rm σ own ps) (hmt : MtI ra jx ja σ own) (ht : ThE ra rm σ) (hT : 0 ≤ T ∧ T < 64) (ho : own r = T) (hm : lmm ra σ T ps r < fu + 1) :
    ∃ own ps, (((RecI ra rm σ own ps ∧ MtI ra jx ja σ own) ∧ ThE ra rm σ) ∧ (gI σ (ra 75) r.toNat = -1 ∨ own (gI σ (ra 75) r.toNat) = T)) ∧ lmm ra σ T ps (gI σ (ra 75) r.toNat) < fu := by
  obtain ⟨o, q, ⟨h1, h2⟩, h3⟩ := stepK hrec hmt hT ho hm
  exact ⟨o, q, ⟨⟨h1, ht⟩, h2⟩, h3⟩
end ST
/-- how many wait -/
def cz (ra : Nat → Nat) (σ : Sg) (own : Int → Int) (T : Int) : Int := sumN 4000 (fun a => if own a = T ∧ gI σ (ra 68) a.toNat = 0 then 1 else 0)
theorem cz_ge {ra : Nat → Nat} {σ : Sg} {own : Int → Int} {T : Int} : 0 ≤ cz ra σ own T := (sumN_ge (n := 4000) (fun a _ => by split <;> omega)).1
theorem cz_pos {ra : Nat → Nat} {σ : Sg} {own : Int → Int} {T r : Int} (hr : 0 ≤ r ∧ r < 4000) (ho : own r = T) (hk : gI σ (ra 68) r.toNat = 0) : 1 ≤ cz ra σ own T := by
  have := (sumN_ge (n := 4000) (f := fun a => if own a = T ∧ gI σ (ra 68) a.toNat = 0 then 1 else 0) (fun a _ => by split <;> omega)).2 r hr
  simp only [ho, hk, and_self, if_true] at this; exact this
theorem sumN_congr {n : Nat} {f f' : Int → Int} (e : ∀ S : Int, 0 ≤ S ∧ S < n → f' S = f S) : sumN n f' = sumN n f := by
  induction n with
  | zero => rfl
  | succ n ih => simp only [sumN]; rw [ih (fun S hS => e S (by omega)), e n (by omega)]
theorem cz_drop {ra : Nat → Nat} {σ σ' : Sg} {own : Int → Int} {T r : Int} (hT : 0 ≤ T ∧ T < 64) (hr : 0 ≤ r ∧ r < 4000) (ho : own r = T) (e : gI σ' (ra 68) = gI σ (ra 68)) : cz ra σ' (up own r 64) T ≤ cz ra σ own T ∧ (gI σ (ra 68) r.toNat = 0 → cz ra σ' (up own r 64) T = cz ra σ own T - 1) := by
  unfold cz
  rw [e]
  have h := sumN_up (n := 4000) (f := fun a => if own a = T ∧ gI σ (ra 68) a.toNat = 0 then (1 : Int) else 0) (f' := fun a => if up own r 64 a = T ∧ gI σ (ra 68) a.toNat = 0 then (1 : Int) else 0) (T := r) (v := 0) hr (fun S _ => by
    by_cases q : S = r
    · subst q; simp only [up, if_true]; rw [if_neg (by omega)]
    · simp only [up, if_neg q])
  rw [h]
  constructor
  · split <;> omega
  · intro q; rw [if_pos ⟨ho, q⟩]; omega
theorem cz_rec {ra : Nat → Nat} {σ σ' : Sg} {own : Int → Int} {T U r v2 : Int} (hT : 0 ≤ T ∧ T < 64) (ho : own r = 64) (hr : 0 ≤ r) (hv : v2 ≠ 0) (e1 : gI σ' (ra 68) r.toNat = v2) (e3 : ∀ a, 0 ≤ a → a ≠ r → gI σ' (ra 68) a.toNat = gI σ (ra 68) a.toNat) : cz ra σ' (up own r U) T = cz ra σ own T := by
  unfold cz
  refine sumN_congr (fun a ha => ?_)
  by_cases q : a = r
  · subst q; simp only [up, if_true]; rw [if_neg (by omega), if_neg (by omega)]
  · simp only [up, if_neg q]; rw [e3 a ha.1 q]
theorem cz_fr {ra : Nat → Nat} {σ σ' : Sg} {own : Int → Int} {T : Int} (e : gI σ' (ra 68) = gI σ (ra 68)) : cz ra σ' own T = cz ra σ own T := by unfold cz; rw [e]

/-- a text's steps: how many numbers lie on the stack before each -/
def Prog (jx : Nat → Nat → Nat) (ja : Nat) (σ : Sg) (dp : Int → Int) : Prop := ∀ pc, 0 ≤ pc → pc < gI σ ja 17 → 0 ≤ dp pc →
  dp pc ≤ 1500 ∧ (gI σ (jx ja 15) pc.toNat = 17 → dp pc = 1) ∧ (gI σ (jx ja 15) pc.toNat ≠ 17 → gI σ (jx ja 15) pc.toNat ≠ 15 → pc + 1 < gI σ ja 17) ∧ (gI σ (jx ja 15) pc.toNat ≤ 2 → dp (pc + 1) = dp pc + 1) ∧ (gI σ (jx ja 15) pc.toNat = 1 → 0 ≤ (gJ σ (jx ja 16) pc.toNat).toInt32.toInt ∧ (gJ σ (jx ja 16) pc.toNat).toInt32.toInt < 8) ∧ (gI σ (jx ja 15) pc.toNat = 11 ∨ gI σ (jx ja 15) pc.toNat = 12 ∨ gI σ (jx ja 15) pc.toNat = 16 → 1 ≤ dp pc ∧ dp (pc + 1) = dp pc) ∧ (gI σ (jx ja 15) pc.toNat = 13 ∨ gI σ (jx ja 15) pc.toNat = 14 → 1 ≤ dp pc ∧ dp (pc + 1) = dp pc - 1 ∧ pc < (gJ σ (jx ja 16) pc.toNat).toInt32.toInt ∧ (gJ σ (jx ja 16) pc.toNat).toInt32.toInt < gI σ ja 17 ∧ dp (gJ σ (jx ja 16) pc.toNat).toInt32.toInt = dp pc - 1) ∧ (gI σ (jx ja 15) pc.toNat = 15 → pc < (gJ σ (jx ja 16) pc.toNat).toInt32.toInt ∧ (gJ σ (jx ja 16) pc.toNat).toInt32.toInt < gI σ ja 17 ∧ dp (gJ σ (jx ja 16) pc.toNat).toInt32.toInt = dp pc) ∧ (3 ≤ gI σ (jx ja 15) pc.toNat ∧ gI σ (jx ja 15) pc.toNat ≤ 10 → 2 ≤ dp pc ∧ dp (pc + 1) = dp pc - 1)
/-- p is where a VALUE's steps begin -/
def PO (jx : Nat → Nat → Nat) (ja : Nat) (σ : Sg) (p : Int) : Prop := ∃ dp, Prog jx ja σ dp ∧ dp p = 0 ∧ 0 ≤ p ∧ p < gI σ ja 17 ∧ gI σ ja 17 ≤ 6000
theorem PO.fr {ra : Nat → Nat} {jx : Nat → Nat → Nat} {rm ja : Nat} {σ σ' : Sg} {p : Int} {K S : List Nat} (h : PO jx ja σ p) (hja : ja = ra 15 ∨ ja = ra 16) (f : Fr ra jx rm K S σ σ') (hK : ([15, 16].all fun k => !K.contains k) = true) : PO jx ja σ' p := by
  have k1 : ∀ k ∈ [15, 16], k ∉ K := fun k hk => by simpa using List.all_eq_true.mp hK k hk
  have e : gI σ' ja = gI σ ja := by rcases hja with q | q <;> rw [q]; exact (f.1 15 (k1 _ (by simp))).1; exact (f.1 16 (k1 _ (by simp))).1
  obtain ⟨dp, h1, h2⟩ := h
  refine ⟨dp, ?_, by rw [e]; exact h2⟩
  unfold Prog at *
  rw [e, (f.2.2.1 ja 15).1, (f.2.2.1 ja 16).2]; exact h1

def dnJ (a b : Int64) : Int64 := if a < 0 then -(((-a + b) - 1) / b) else a / b
theorem bm64 {x : Int} (h : -9223372036854775808 ≤ x ∧ x < 9223372036854775808) : x.bmod (2 ^ 64) = x := Int.bmod_eq_of_le (by omega) (by omega)
theorem dn_le {a b : Int64} (ha : a.toInt ≤ 4611686018427387904) (hb : 1 ≤ b.toInt) : (dnJ a b).toInt ≤ 4611686018427387904 := by
  unfold dnJ
  split
  · rename_i h
    have h0 : a.toInt < 0 := by rw [Int64.lt_iff_toInt_lt] at h; exact h
    by_cases q : b.toInt = 1
    · have e : b = 1 := Int64.toInt_inj.mp q
      subst e
      have e2 : (-a + 1 - 1) / 1 = -a := by
        rw [Int64.add_sub_cancel]
        apply Int64.toInt_inj.mp
        rw [Int64.toInt_div]
        have : (1 : Int64).toInt = 1 := rfl
        rw [this, Int.tdiv_one]
        have h1 := (-a).le_toInt; have h2 := (-a).toInt_lt
        exact bm64 ⟨h1, h2⟩
      rw [e2, Int64.neg_neg]; omega
    · have h1 := (-a + b - 1).le_toInt; have h2 := (-a + b - 1).toInt_lt
      generalize -a + b - 1 = x at h1 h2 ⊢
      have h3 : (x / b).toInt = x.toInt.tdiv b.toInt := by
        rw [Int64.toInt_div]
        have h5 : -4611686018427387904 ≤ x.toInt.tdiv b.toInt ∧ x.toInt.tdiv b.toInt ≤ 4611686018427387904 := by
          have h6 : (x.toInt.tdiv b.toInt).natAbs = x.toInt.natAbs / b.toInt.natAbs := Int.natAbs_tdiv x.toInt b.toInt
          have h7 : x.toInt.natAbs / b.toInt.natAbs ≤ x.toInt.natAbs / 2 := Nat.div_le_div_left (by omega) (by omega)
          omega
        exact bm64 ⟨by omega, by omega⟩
      have h8 : -4611686018427387904 ≤ (x / b).toInt ∧ (x / b).toInt ≤ 4611686018427387904 := by
        rw [h3]
        have h6 : (x.toInt.tdiv b.toInt).natAbs = x.toInt.natAbs / b.toInt.natAbs := Int.natAbs_tdiv x.toInt b.toInt
        have h7 : x.toInt.natAbs / b.toInt.natAbs ≤ x.toInt.natAbs / 2 := Nat.div_le_div_left (by omega) (by omega)
        omega
      rw [Int64.toInt_neg, bm64 ⟨by omega, by omega⟩]; omega
  · rename_i h
    have h0 : 0 ≤ a.toInt := by rw [Int64.lt_iff_toInt_lt] at h; have : (0 : Int64).toInt = 0 := rfl; omega
    rw [Int64.toInt_div, Int.tdiv_eq_ediv_of_nonneg h0]
    have h1 : a.toInt / b.toInt ≤ a.toInt := Int.ediv_le_self _ h0
    have h2 : 0 ≤ a.toInt / b.toInt := Int.ediv_nonneg h0 (by omega)
    rw [bm64 ⟨by omega, by omega⟩]; omega
theorem i64_succ {x : Int64} (h : x.toInt < 9223372036854775807) : (x + 1).toInt = x.toInt + 1 := by
  rw [Int64.toInt_add]
  have : (1 : Int64).toInt = 1 := rfl
  have h1 := x.le_toInt
  rw [this]; exact bm64 ⟨by omega, by omega⟩

theorem sumN_zero {n : Nat} {f : Int → Int} (h : ∀ T : Int, 0 ≤ T ∧ T < n → f T = 0) : sumN n f = 0 := by
  induction n with
  | zero => rfl
  | succ n ih => simp only [sumN]; rw [ih (fun T hT => h T (by omega)), h n (by omega)]; omega
/-- all free, in order -/
theorem FL.fresh {nx : Int → Int} {N z : Int} (hz : z ≠ -1) (hN : 0 < N) (h : ∀ a, 0 ≤ a → a < N → nx a = if a + 1 < N then a + 1 else -1) : FL z nx (fun a => if 0 ≤ a ∧ a < N then z else -1) (fun a => N - 1 - a) 0 N := by
  refine ⟨fun a ha => ?_, fun a b _ _ hp => by dsimp only at hp; omega, by omega, by omega, fun _ => ⟨by simp [hN], by dsimp only; omega⟩⟩
  dsimp only at ha ⊢
  have h0 : 0 ≤ a ∧ a < N := by
    by_cases q : 0 ≤ a ∧ a < N
    · exact q
    · rw [if_neg q] at ha; omega
  have h1 := h a h0.1 h0.2
  refine ⟨h0.1, by omega, by omega, fun q => by rw [h1, if_neg (by omega)], fun q => ?_⟩
  rw [h1, if_pos (by omega)]
  exact ⟨by first | rfl | rw [if_pos (by omega)], by omega⟩
theorem LL.fresh {L : Int → Prop} {nx fi la mn : Int → Int} {N z : Int} (hz : ¬ L z) (hm : ¬ L (-1)) (h : ∀ T, L T → fi T = -1 ∧ la T = -1 ∧ mn T = 0) : LL L nx fi la mn (fun a => if 0 ≤ a ∧ a < N then z else -1) (fun a => N - 1 - a) := by
  refine ⟨fun a ha => ?_, fun a b ha => ?_, fun T hT => ?_⟩
  · exfalso; revert ha; dsimp only; split <;> assumption
  · exfalso; revert ha; dsimp only; split <;> assumption
  · have := h T hT; exact ⟨by omega, fun _ => ⟨this.1, this.2.1⟩, fun q => by omega⟩
theorem RecI.fresh {ra : Nat → Nat} {rm : Nat} {σ : Sg} (h1 : ∀ i : Nat, (i : Int) < 4000 → gI σ (ra 75) i = if (i : Int) + 1 < 4000 then (i : Int) + 1 else -1) (h2 : ∀ i : Nat, (i : Int) < 64 → gI σ (ra 76) i = -1 ∧ gI σ (ra 77) i = -1 ∧ gI σ (ra 78) i = 0) (h3 : gI σ rm 79 = 0) (h4 : gI σ rm 80 = 0) : RecI ra rm σ (fun a => if 0 ≤ a ∧ a < 4000 then 64 else -1) (fun a => 4000 - 1 - a) := by
  refine ⟨LL.fresh (by omega) (by omega) (fun T hT => ?_), ?_, ?_, ?_, ?_⟩
  · exact h2 T.toNat (by omega)
  · rw [h3, h4]
    exact FL.fresh (N := 4000) (by omega) (by omega) (fun a h5 h6 => by
      have := h1 a.toNat (by omega)
      have e : ((a.toNat : Nat) : Int) = a := by omega
      rw [e] at this; exact this)
  · intro a ha; by_cases q : 0 ≤ a ∧ a < 4000
    · exact q
    · simp only [if_neg q] at ha; omega
  · intro a ha; exfalso; revert ha; dsimp only; split <;> omega
  · rw [h4, sumN_zero (fun T hT => (h2 T.toNat (by omega)).2.2)]
theorem RecE.fresh {ra : Nat → Nat} {jx : Nat → Nat → Nat} {rm ja : Nat} {σ : Sg} {own ps : Int → Int} (h : RecI ra rm σ own ps) (h2 : ∀ a, ¬ (0 ≤ own a ∧ own a < 64)) : RecE ra jx rm ja σ := ⟨own, ps, h, fun a ha => absurd ha (h2 a)⟩
theorem HeE.fresh {ra : Nat → Nat} {rm : Nat} {σ : Sg} (h1 : ∀ i : Nat, (i : Int) < 2000 → gI σ (ra 86) i = if (i : Int) + 1 < 2000 then (i : Int) + 1 else -1) (h2 : ∀ i : Nat, (i : Int) < 12 → gI σ (ra 87) i = -1 ∧ gI σ (ra 88) i = -1 ∧ gI σ (ra 89) i = 0) (h3 : gI σ rm 90 = 0) (h4 : gI σ rm 91 = 0) : HeE ra rm σ := by
  refine ⟨fun a => if 0 ≤ a ∧ a < 2000 then 12 else -1, fun a => 2000 - 1 - a, fI σ (ra 89), fI σ (ra 88), ⟨LL.fresh (by omega) (by omega) (fun T hT => ?_), ?_, ?_, ?_⟩, fun S _ => ⟨rfl, rfl⟩⟩
  · exact h2 T.toNat (by omega)
  · rw [h3, h4]
    exact FL.fresh (N := 2000) (by omega) (by omega) (fun a h5 h6 => by
      have := h1 a.toNat (by omega)
      have e : ((a.toNat : Nat) : Int) = a := by omega
      rw [e] at this; exact this)
  · intro a ha; by_cases q : 0 ≤ a ∧ a < 2000
    · exact q
    · simp only [if_neg q] at ha; omega
  · rw [h4, sumN_zero (fun T hT => (h2 T.toNat (by omega)).2.2)]; rfl
theorem ThE.fresh {ra : Nat → Nat} {rm : Nat} {σ : Sg} (h1 : ∀ i : Nat, (i : Int) < 12802 → gI σ (ra 65) i = if (i : Int) + 1 < 12802 then (i : Int) + 1 else -1) (h2 : ∀ i : Nat, (i : Int) < 64 → gI σ (ra 46) i = -1 ∧ gI σ (ra 47) i = -1) (h3 : gI σ rm 66 = 0) (h4 : gI σ rm 67 = 0) (h5 : ∀ i : Nat, (i : Int) < 1100 → gI σ (ra 54) i = 0) : ThE ra rm σ := by
  refine ⟨fun a => if 0 ≤ a ∧ a < 12802 then 64 else -1, fun a => 12802 - 1 - a, fun _ => 0, 12802, LL.fresh (by omega) (by omega) (fun T hT => ?_), ?_, ?_, ?_, ?_, ?_⟩
  · have := h2 T.toNat (by omega); exact ⟨this.1, this.2, rfl⟩
  · rw [h3]
    exact FL.fresh (N := 12802) (by omega) (by omega) (fun a h5 h6 => by
      have := h1 a.toNat (by omega)
      have e : ((a.toNat : Nat) : Int) = a := by omega
      rw [e] at this; exact this)
  · intro a ha; by_cases q : 0 ≤ a ∧ a < 12802
    · exact q
    · simp only [if_neg q] at ha; omega
  · intro c j q1 q2 q3 q4; rw [h5 c.toNat (by omega)] at q4; omega
  · rw [h4, sumN_zero (fun _ _ => rfl)]
  · rw [h4, sumN_zero (fun T hT => h5 T.toNat (by omega))]; rfl

/-- an operator is laid as it should -/
def OpOR (jx : Nat → Nat → Nat) (ja : Nat) (σ : Sg) (o : Int) : Prop :=
  (gI σ (jx ja 2) o.toNat ≠ 0 → 0 ≤ gI σ (jx ja 4) o.toNat) ∧ (gI σ (jx ja 2) o.toNat = 3 ∨ gI σ (jx ja 2) o.toNat = 6 ∨ gI σ (jx ja 2) o.toNat = 7 → 0 ≤ gI σ (jx ja 5) o.toNat) ∧
  (gI σ (jx ja 2) o.toNat = 0 → (0 ≤ (gJ σ (jx ja 8) o.toNat).toInt32.toInt ∧ (gJ σ (jx ja 8) o.toNat).toInt32.toInt < 4) ∧ gI σ (jx ja 6) o.toNat ≤ 4 ∧ 0 ≤ (gJ σ (jx ja 9) o.toNat).toInt ∧ (gJ σ (jx ja 9) o.toNat).toInt ≤ 1000) ∧
  (gI σ (jx ja 2) o.toNat = 1 ∨ gI σ (jx ja 2) o.toNat = 2 ∨ gI σ (jx ja 2) o.toNat = 8 → 1 ≤ gI σ (jx ja 12) o.toNat ∧ ∀ k, 0 ≤ k → k < gI σ (jx ja 12) o.toNat → PO jx ja σ (gI σ (jx ja 13) (8 * o + k).toNat)) ∧
  (gI σ (jx ja 2) o.toNat = 8 → 2 ≤ gI σ (jx ja 12) o.toNat) ∧
  (gI σ (jx ja 2) o.toNat = 4 ∨ gI σ (jx ja 2) o.toNat = 5 → gI σ (jx ja 12) o.toNat ≤ 4 ∧ ∀ k, 0 ≤ k → k < gI σ (jx ja 12) o.toNat → gI σ (jx ja 14) (8 * o + k).toNat ≠ 0 → PO jx ja σ (gI σ (jx ja 13) (8 * o + k).toNat)) ∧
  (gI σ (jx ja 2) o.toNat = 4 → 1 ≤ (gJ σ (jx ja 9) o.toNat).toInt) ∧
  (gI σ (jx ja 2) o.toNat = 10 → 1 ≤ (gJ σ (jx ja 9) o.toNat).toInt ∧ 1 ≤ (gJ σ (jx ja 8) o.toNat).toInt ∧ (gJ σ (jx ja 8) o.toNat).toInt ≤ 9 ∧ gI σ (jx ja 6) (gI σ (jx ja 4) o.toNat).toNat ≤ 7) ∧
  (gI σ (jx ja 2) o.toNat = 4 ∨ gI σ (jx ja 2) o.toNat = 5 → 1 ≤ (gJ σ (jx ja 8) o.toNat).toInt ∧ (gJ σ (jx ja 8) o.toNat).toInt ≤ 1000) ∧ (gI σ (jx ja 2) o.toNat = 4 ∨ gI σ (jx ja 2) o.toNat = 10 → (gJ σ (jx ja 9) o.toNat).toInt ≤ 1000) ∧ gI σ (jx ja 4) o.toNat < o ∧ gI σ (jx ja 5) o.toNat < o
def JobOK (jx : Nat → Nat → Nat) (ja : Nat) (σ : Sg) : Prop := (cO jx ja σ (gI σ ja 0) = gI σ ja 1 ∧ gI σ ja 1 ≤ 4 ∧ 1 ≤ gI σ ja 0 ∧ gI σ ja 0 ≤ 16) ∧ 1 ≤ gI σ ja 1 ∧ ∀ o, 0 ≤ o → o < gI σ ja 0 → OpOR jx ja σ o
section OK
variable {ra : Nat → Nat} {jx : Nat → Nat → Nat} {rm ja : Nat} {σ σ' : Sg} {K S : List Nat}
theorem Fr.ob (f : Fr ra jx rm K S σ σ') (hja : ja = ra 15 ∨ ja = ra 16) (hK : ([15, 16].all fun k => !K.contains k) = true) : gI σ' ja = gI σ ja := by
  have k1 : ∀ k ∈ [15, 16], k ∉ K := fun k hk => by simpa using List.all_eq_true.mp hK k hk
  rcases hja with q | q <;> rw [q]
  · exact (f.1 15 (k1 _ (by simp))).1
  · exact (f.1 16 (k1 _ (by simp))).1
theorem PO.eq (f : Fr ra jx rm K S σ σ') (hja : ja = ra 15 ∨ ja = ra 16) (hK : ([15, 16].all fun k => !K.contains k) = true) : PO jx ja σ' = PO jx ja σ := by
  funext p
  unfold PO Prog
  rw [f.ob hja hK, (f.2.2.1 ja 15).1, (f.2.2.1 ja 16).2]
theorem OpOR.eq (f : Fr ra jx rm K S σ σ') (hja : ja = ra 15 ∨ ja = ra 16) (hK : ([15, 16].all fun k => !K.contains k) = true) : OpOR jx ja σ' = OpOR jx ja σ := by
  funext o
  unfold OpOR
  rw [PO.eq f hja hK, (f.2.2.1 ja 2).1, (f.2.2.1 ja 4).1, (f.2.2.1 ja 5).1, (f.2.2.1 ja 6).1, (f.2.2.1 ja 8).2, (f.2.2.1 ja 9).2, (f.2.2.1 ja 12).1, (f.2.2.1 ja 13).1, (f.2.2.1 ja 14).1]
theorem JobOK.fr (h : JobOK jx ja σ) (hja : ja = ra 15 ∨ ja = ra 16) (f : Fr ra jx rm K S σ σ') (hK : ([15, 16].all fun k => !K.contains k) = true) : JobOK jx ja σ' := by
  unfold JobOK cO at *
  rw [OpOR.eq f hja hK, f.ob hja hK, (f.2.2.1 ja 2).1]; exact h
end OK

/-- what is left as it was, where a job is laid: all but the arrays K (15, 16: a job's own fields), the own fields S, the jobs' arrays J; references but for 99 in J -/
def Fj (ra : Nat → Nat) (jx : Nat → Nat → Nat) (rm : Nat) (K S J : List Nat) (σ σ' : Sg) : Prop :=
  (∀ k, k ∉ K → gI σ' (ra k) = gI σ (ra k) ∧ gJ σ' (ra k) = gJ σ (ra k)) ∧ (∀ k, k ∉ S → gI σ' rm k = gI σ rm k ∧ gJ σ' rm k = gJ σ rm k) ∧ (∀ a k, k ∉ J → gI σ' (jx a k) = gI σ (jx a k) ∧ gJ σ' (jx a k) = gJ σ (jx a k)) ∧ (99 ∉ J → gP σ' = gP σ)
section FJ
variable {ra : Nat → Nat} {jx : Nat → Nat → Nat} {rm : Nat} {K S J : List Nat} {σ σ' σ'' : Sg}
theorem Fj.rf : Fj ra jx rm K S J σ σ := ⟨fun _ _ => ⟨rfl, rfl⟩, fun _ _ => ⟨rfl, rfl⟩, fun _ _ _ => ⟨rfl, rfl⟩, fun _ => rfl⟩
theorem Fj.tr (h1 : Fj ra jx rm K S J σ σ') (h2 : Fj ra jx rm K S J σ' σ'') : Fj ra jx rm K S J σ σ'' :=
  ⟨fun k hk => ⟨(h2.1 k hk).1.trans (h1.1 k hk).1, (h2.1 k hk).2.trans (h1.1 k hk).2⟩, fun k hk => ⟨(h2.2.1 k hk).1.trans (h1.2.1 k hk).1, (h2.2.1 k hk).2.trans (h1.2.1 k hk).2⟩, fun a k hk => ⟨(h2.2.2.1 a k hk).1.trans (h1.2.2.1 a k hk).1, (h2.2.2.1 a k hk).2.trans (h1.2.2.1 a k hk).2⟩, fun hk => (h2.2.2.2 hk).trans (h1.2.2.2 hk)⟩
theorem Fr.j (h : Fr ra jx rm K S σ σ') : Fj ra jx rm K S [] σ σ' := ⟨h.1, h.2.1, fun a k _ => h.2.2.1 a k, fun _ => h.2.2.2⟩
theorem Fj.mor {K' S' J' : List Nat} (h : Fj ra jx rm K S J σ σ') (hK : (K.all fun k => K'.contains k) = true) (hS : (S.all fun k => S'.contains k) = true) (hJ : (J.all fun k => J'.contains k) = true) : Fj ra jx rm K' S' J' σ σ' := by
  have k1 : ∀ k, k ∈ K → k ∈ K' := fun k hk => by simpa using List.all_eq_true.mp hK k hk
  have k2 : ∀ k, k ∈ S → k ∈ S' := fun k hk => by simpa using List.all_eq_true.mp hS k hk
  have k3 : ∀ k, k ∈ J → k ∈ J' := fun k hk => by simpa using List.all_eq_true.mp hJ k hk
  exact ⟨fun k hk => h.1 k (fun q => hk (k1 k q)), fun k hk => h.2.1 k (fun q => hk (k2 k q)), fun a k hk => h.2.2.1 a k (fun q => hk (k3 k q)), fun hk => h.2.2.2 (fun q => hk (k3 _ q))⟩
theorem Fj.aI (g : Geo ra jx rm) (h : Fj ra jx rm K S J σ σ') {k i : Nat} {x : Int} (hk : k ∈ K) : Fj ra jx rm K S J σ (pI σ' (ra k) i x) :=
  h.tr ((Fr.aI (K := [k]) (S := []) g Fr.rf (by simp)).j.mor (by simpa using hk) rfl rfl)
theorem Fj.aJ (g : Geo ra jx rm) (h : Fj ra jx rm K S J σ σ') {k i : Nat} {x : Int64} (hk : k ∈ K) : Fj ra jx rm K S J σ (pJ σ' (ra k) i x) :=
  h.tr ((Fr.aJ (K := [k]) (S := []) g Fr.rf (by simp)).j.mor (by simpa using hk) rfl rfl)
theorem Fj.sI (g : Geo ra jx rm) (h : Fj ra jx rm K S J σ σ') {k : Nat} {x : Int} (hk : k ∈ S) : Fj ra jx rm K S J σ (pI σ' rm k x) :=
  h.tr ((Fr.sI (K := []) (S := [k]) g Fr.rf (by simp)).j.mor rfl (by simpa using hk) rfl)
theorem Fj.sJ (g : Geo ra jx rm) (h : Fj ra jx rm K S J σ σ') {k : Nat} {x : Int64} (hk : k ∈ S) : Fj ra jx rm K S J σ (pJ σ' rm k x) :=
  h.tr ((Fr.sJ (K := []) (S := [k]) g Fr.rf (by simp)).j.mor rfl (by simpa using hk) rfl)
theorem Fj.jI (g : Geo ra jx rm) (h : Fj ra jx rm K S J σ σ') {a k i : Nat} {x : Int} (hk : k ∈ J) : Fj ra jx rm K S J σ (pI σ' (jx a k) i x) := by
  obtain ⟨g1, g2, g3, g4, g5, g6, g7, g8⟩ := g
  refine h.tr ⟨fun j _ => ⟨up2_off (g5 a k j), rfl⟩, fun j _ => ⟨by show up2 _ _ _ _ rm j = _; rw [up2_off (g7 a k)], rfl⟩, fun b j hj => ⟨up2_off (fun q => hj (by rw [((g8 _ _ _ _).mp q).2]; exact hk)), rfl⟩, fun _ => rfl⟩
theorem Fj.jJ (g : Geo ra jx rm) (h : Fj ra jx rm K S J σ σ') {a k i : Nat} {x : Int64} (hk : k ∈ J) : Fj ra jx rm K S J σ (pJ σ' (jx a k) i x) := by
  obtain ⟨g1, g2, g3, g4, g5, g6, g7, g8⟩ := g
  refine h.tr ⟨fun j _ => ⟨rfl, up2_off (g5 a k j)⟩, fun j _ => ⟨rfl, by show up2 _ _ _ _ rm j = _; rw [up2_off (g7 a k)]⟩, fun b j hj => ⟨rfl, up2_off (fun q => hj (by rw [((g8 _ _ _ _).mp q).2]; exact hk))⟩, fun _ => rfl⟩
theorem Fj.oI (g : Geo ra jx rm) (h : Fj ra jx rm K S J σ σ') {a k : Nat} {x : Int} (ha : a = ra 15 ∨ a = ra 16) (hk : (K.contains 15 && K.contains 16) = true) : Fj ra jx rm K S J σ (pI σ' a k x) := by
  simp at hk
  rcases ha with q | q <;> rw [q]
  · exact Fj.aI g h hk.1
  · exact Fj.aI g h hk.2
theorem Fj.pP (h : Fj ra jx rm K S J σ σ') {a k : Nat} {x : Option Nat} (hk : 99 ∈ J) : Fj ra jx rm K S J σ (pP σ' a k x) :=
  h.tr ⟨fun _ _ => ⟨rfl, rfl⟩, fun _ _ => ⟨rfl, rfl⟩, fun _ _ _ => ⟨rfl, rfl⟩, fun q => absurd hk q⟩
theorem Rg.oI (g : Geo ra jx rm) (h : Rg ra jx rm σ) {a k : Nat} {x : Int} (ha : a = ra 15 ∨ a = ra 16) (hx : -2147483648 ≤ x ∧ x ≤ 2147483647) : Rg ra jx rm (pI σ a k x) := by
  rcases ha with q | q <;> rw [q]
  · exact Rg.aI g h hx
  · exact Rg.aI g h hx
end FJ
theorem s_X16_nameOf {ra : Nat → Nat} {jx : Nat → Nat → Nat} {rm : Nat} (_ : Geo ra jx rm) {σ : Sg} {v0 : Nat} (_ : Rg ra jx rm σ) {Q : Sg → Int64 → Prop} {X : Sg → String → Prop} (hQ : ∀ (r : Int64), r = nv v0 → Q σ r) : wp_X16_nameOf ra jx rm v0 σ Q X := hQ _ rfl
theorem Fj.ob {ra : Nat → Nat} {jx : Nat → Nat → Nat} {rm ja : Nat} {σ σ' : Sg} {K S J : List Nat} (f : Fj ra jx rm K S J σ σ') (hja : ja = ra 15 ∨ ja = ra 16) (hK : ([15, 16].all fun k => !K.contains k) = true) : gI σ' ja = gI σ ja := by
  have k1 : ∀ k ∈ [15, 16], k ∉ K := fun k hk => by simpa using List.all_eq_true.mp hK k hk
  rcases hja with q | q <;> rw [q]
  · exact (f.1 15 (k1 _ (by simp))).1
  · exact (f.1 16 (k1 _ (by simp))).1

theorem HeG.pass2 {ra : Nat → Nat} {rm : Nat} {σ σ' : Sg} {own ps mn la o p : Int → Int} {T V t b hd : Int} {fu : Nat} (q : HeG ra rm σ' o p (up (up mn T (mn T - 1)) V (up mn T (mn T - 1) V + 1)) (up (fun S => if S = T ∧ la T = t then b else la S) V t) hd ∧ gI σ' (ra 88) V.toNat = t ∧ gI σ' (ra 89) V.toNat = up mn T (mn T - 1) V + 1 ∧ (∀ S, 0 ≤ S ∧ S < 12 → S ≠ V → gI σ' (ra 88) S.toNat = gI σ (ra 88) S.toNat ∧ gI σ' (ra 89) S.toNat = gI σ (ra 89) S.toNat)) (hd0 : hd = 0) (h : HeG ra rm σ own ps mn la 0 ∧ HeA ra σ mn la T) (hm : (mn T).toNat < fu + 1) (h1 : 0 ≤ T ∧ T < 12) (h2 : 0 ≤ V ∧ V < 12) (h12 : T ≠ V) (h0 : ¬ gI σ (ra 87) T.toNat = -1) :
    ∃ own ps mn la, (HeG ra rm σ' own ps mn la 0 ∧ HeA ra σ' mn la T) ∧ (mn T).toNat < fu := by
  subst hd0
  have hls := h.1.ls h1
  refine ⟨o, p, _, _, ⟨q.1, fun S hS hn => ?_⟩, ?_⟩
  · by_cases w : S = V
    · subst w; rw [q.2.1, q.2.2.1]; simp [up]
    · have h5 := q.2.2.2 S hS w; have h6 := h.2 S hS hn
      rw [h5.1, h5.2]
      simp only [up, if_neg w, if_neg hn]
      rw [if_neg (fun z => hn z.1)]; exact h6
  · simp only [up, if_neg h12, if_true]; omega

theorem i64o {v : Int} {a : Int64} (h0 : 0 ≤ v) (h1 : v ≤ 1000) : (Int64.ofInt v > a → a.toInt < v) ∧ (¬ Int64.ofInt v > a → v ≤ a.toInt) := by
  have e : (Int64.ofInt v).toInt = v := Int64.toInt_ofInt_of_le (by omega) (by omega)
  constructor
  · intro h
    have h2 : a < Int64.ofInt v := h
    rw [Int64.lt_iff_toInt_lt] at h2; omega
  · intro h
    have h2 : ¬ a < Int64.ofInt v := h
    rw [Int64.lt_iff_toInt_lt] at h2; omega
theorem RecI.inj {ra : Nat → Nat} {rm : Nat} {σ : Sg} {own ps : Int → Int} {a b T : Int} (h : RecI ra rm σ own ps) (hT : 0 ≤ T ∧ T < 64) (ha : own a = T) (hb : own b = T) (e : ps a = ps b) : a = b := by
  exact h.1.2.1 a b (by show 0 ≤ own a ∧ own a < 64; omega) (by omega) e
theorem addN {A : (Int → Int) → (Int → Int) → Prop} {m : (Int → Int) → (Int → Int) → Nat} {P : Prop} {fu : Nat} (h : ∃ o p, A o p ∧ m o p < fu) (hp : P) : ∃ o p, (A o p ∧ P) ∧ m o p < fu := by
  obtain ⟨o, p, h1, h2⟩ := h; exact ⟨o, p, ⟨h1, hp⟩, h2⟩
theorem maxJ_b {a b : Int64} {M : Int} (h1 : -1 ≤ a.toInt) (h2 : a.toInt ≤ M) (h3 : b.toInt ≤ M) : -1 ≤ (maxJ a b).toInt ∧ (maxJ a b).toInt ≤ M := by
  unfold maxJ
  split
  · exact ⟨h1, h2⟩
  · rename_i h
    have h4 : ¬ b ≤ a := h
    rw [Int64.le_iff_toInt_le] at h4
    exact ⟨by omega, h3⟩
theorem i64_sub3 {a b : Int64} (h1 : -1 ≤ a.toInt) (h2 : a.toInt ≤ 1000000) (h3 : 0 ≤ b.toInt) (h4 : b.toInt ≤ 1000) : (a - b - 1).toInt = a.toInt - b.toInt - 1 := by
  rw [Int64.toInt_sub, Int64.toInt_sub, show (1 : Int64).toInt = 1 from rfl, Int.bmod_def, Int.bmod_def]; omega

section MA
variable {ra : Nat → Nat} {jx : Nat → Nat → Nat} {rm ja : Nat} {σ σ' : Sg} {own ps : Int → Int} {r T w N : Int}
theorem stepDX {fu : Nat} (hrec : RecI ra rm σ own ps) (hT : 0 ≤ T ∧ T < 64) (ho : own r = T) (p : RecI ra rm σ' (up own r 64) (up (fun a => if own a = T ∧ ps r < ps a then ps a - 1 else ps a) r w)) (p2 : gI σ' (ra 78) T.toNat = gI σ (ra 78) T.toNat - 1) (hm' : MtI ra jx ja σ' (up own r 64)) (ht : ThE ra rm σ') (e68 : gI σ' (ra 68) = gI σ (ra 68)) (hc : cz ra σ own T ≤ N) (hm : lmm ra σ T ps r < fu + 1) :
    ∃ own ps, ((((RecI ra rm σ' own ps ∧ MtI ra jx ja σ' own) ∧ ThE ra rm σ') ∧ (gI σ (ra 75) r.toNat = -1 ∨ own (gI σ (ra 75) r.toNat) = T)) ∧ cz ra σ' own T ≤ N) ∧ lmm ra σ' T ps (gI σ (ra 75) r.toNat) < fu := by
  have hn := hrec.nd ho hT
  have hcz := (cz_drop (σ := σ) (σ' := σ') hT hn.1 ho e68).1
  refine ⟨_, _, ⟨⟨⟨⟨p, hm'⟩, ht⟩, ?_⟩, by omega⟩, ?_⟩
  · rcases hn.2.2.2 with q | q
    · exact Or.inl q.2
    · refine Or.inr ?_
      have : gI σ (ra 75) r.toNat ≠ r := fun z => by have := q.2.2; rw [z] at this; omega
      simp only [up, if_neg this]; exact q.2.1
  · simp only [lmm] at hm ⊢
    rw [if_neg (by omega)] at hm
    rw [p2]
    rcases hn.2.2.2 with q | q
    · rw [if_pos (by omega)]; omega
    · have h9 : gI σ (ra 75) r.toNat ≠ r := fun z => by have := q.2.2; rw [z] at this; omega
      split
      · omega
      · simp only [up, if_neg h9]; rw [if_pos ⟨q.2.1, by omega⟩]; omega
theorem stepKX {fu : Nat} (hrec : RecI ra rm σ own ps) (hrec' : RecI ra rm σ' own ps) (hmt : MtI ra jx ja σ' own) (ht : ThE ra rm σ') (hT : 0 ≤ T ∧ T < 64) (ho : own r = T) (e78 : gI σ' (ra 78) T.toNat = gI σ (ra 78) T.toNat) (e68 : gI σ' (ra 68) = gI σ (ra 68)) (hc : cz ra σ own T ≤ N) (hm : lmm ra σ T ps r < fu + 1) :
    ∃ own ps, ((((RecI ra rm σ' own ps ∧ MtI ra jx ja σ' own) ∧ ThE ra rm σ') ∧ (gI σ (ra 75) r.toNat = -1 ∨ own (gI σ (ra 75) r.toNat) = T)) ∧ cz ra σ' own T ≤ N) ∧ lmm ra σ' T ps (gI σ (ra 75) r.toNat) < fu := by
  have hn := hrec.nd ho hT
  refine ⟨own, ps, ⟨⟨⟨⟨hrec', hmt⟩, ht⟩, ?_⟩, by rw [cz_fr e68]; exact hc⟩, ?_⟩
  · rcases hn.2.2.2 with q | q
    · exact Or.inl q.2
    · exact Or.inr q.2.1
  · simp only [lmm] at hm ⊢
    rw [if_neg (by omega)] at hm
    rw [e78]
    rcases hn.2.2.2 with q | q
    · rw [if_pos (by omega)]; omega
    · split
      · omega
      · omega
theorem MtI.inc (h : MtI ra jx ja σ own) (hr : 0 ≤ r) (hn : ∀ a, 0 ≤ own a ∧ own a < 64 → 0 ≤ a) (e38 : gI σ' (ra 38) = gI σ (ra 38)) (e2 : gI σ' (jx ja 2) = gI σ (jx ja 2)) (e12 : gI σ' (jx ja 12) = gI σ (jx ja 12)) (e68 : gI σ' (ra 68) = gI σ (ra 68)) (e72 : ∀ a : Nat, a ≠ r.toNat → gJ σ' (ra 72) a = gJ σ (ra 72) a)
    (hk : 0 ≤ own r ∧ own r < 64 → 1 ≤ (gJ σ' (ra 72) r.toNat).toInt ∧ (gJ σ' (ra 72) r.toNat).toInt < gI σ (jx ja 12) (gI σ (ra 38) (own r).toNat).toNat) : MtI ra jx ja σ' own := by
  intro a ha
  rw [e38, e2, e12, e68]
  intro k1 k2
  by_cases q : a = r
  · subst q; exact hk ha
  · have h9 := hn a ha
    rw [e72 a.toNat (by omega)]; exact h a ha k1 k2
end MA
theorem i64_inc {x : Int64} (h0 : 0 ≤ x.toInt) (h1 : x.toInt ≤ 1000) : (x + 1).toInt = x.toInt + 1 := by
  rw [Int64.toInt_add, show (1 : Int64).toInt = 1 from rfl, Int.bmod_def]; omega
theorem i64_neo {x : Int64} {V : Int} (h0 : 0 ≤ V) (h1 : V ≤ 1000) : (x ≠ Int64.ofInt V → x.toInt ≠ V) ∧ (¬ x ≠ Int64.ofInt V → x.toInt = V) := by
  have e : (Int64.ofInt V).toInt = V := Int64.toInt_ofInt_of_le (by omega) (by omega)
  constructor
  · intro h q; exact h (Int64.toInt_inj.mp (by rw [e]; exact q))
  · intro h
    have h2 : x = Int64.ofInt V := by
      by_cases q : x = Int64.ofInt V
      · exact q
      · exact absurd q h
    rw [h2]; exact e
theorem i32s {x : Int64} (h0 : 0 ≤ x.toInt) (h1 : x.toInt ≤ 1000) : x.toInt32.toInt = x.toInt := by
  rw [Int64.toInt_toInt32, Int.bmod_def]; omega

/-- what is kept of one record -/
def MkC (ra : Nat → Nat) (jx : Nat → Nat → Nat) (ja : Nat) (σ : Sg) (i : Nat) : Prop := gI σ (jx ja 2) (gI σ (ra 100) i).toNat = 8 → gI σ (ra 99) i = 2 → 1 ≤ (gJ σ (ra 104) i).toInt ∧ (gJ σ (ra 104) i).toInt < gI σ (jx ja 12) (gI σ (ra 100) i).toNat
def MkI (ra : Nat → Nat) (jx : Nat → Nat → Nat) (ja : Nat) (σ : Sg) : Prop := (∀ i : Nat, (i : Int) < gI σ (ra 98) 0 → MkC ra jx ja σ i) ∧ (∀ i : Nat, (i : Int) < gI σ (ra 98) 1 → MkC ra jx ja σ (4000 + i))
section MK
variable {ra : Nat → Nat} {jx : Nat → Nat → Nat} {rm ja : Nat} {σ σ' : Sg} {own ps : Int → Int} {K S : List Nat}
theorem MkC.eq {i : Nat} (h : MkC ra jx ja σ i) (e2 : gI σ' (jx ja 2) = gI σ (jx ja 2)) (e12 : gI σ' (jx ja 12) = gI σ (jx ja 12)) (e99 : gI σ' (ra 99) i = gI σ (ra 99) i) (e100 : gI σ' (ra 100) i = gI σ (ra 100) i) (e104 : gJ σ' (ra 104) i = gJ σ (ra 104) i) : MkC ra jx ja σ' i := by
  unfold MkC at *; rw [e2, e12, e99, e100, e104]; exact h
theorem MkC.cp {i j : Nat} (h : MkC ra jx ja σ j) (e2 : gI σ' (jx ja 2) = gI σ (jx ja 2)) (e12 : gI σ' (jx ja 12) = gI σ (jx ja 12)) (e99 : gI σ' (ra 99) i = gI σ (ra 99) j) (e100 : gI σ' (ra 100) i = gI σ (ra 100) j) (e104 : gJ σ' (ra 104) i = gJ σ (ra 104) j) : MkC ra jx ja σ' i := by
  unfold MkC at *; rw [e2, e12, e99, e100, e104]; exact h
theorem MkI.fr (h : MkI ra jx ja σ) (f : Fr ra jx rm K S σ σ') (hK : ([98, 99, 100, 104].all fun k => !K.contains k) = true) : MkI ra jx ja σ' := by
  have k1 : ∀ k ∈ [98, 99, 100, 104], k ∉ K := fun k hk => by simpa using List.all_eq_true.mp hK k hk
  unfold MkI MkC at *
  rw [(f.1 98 (k1 _ (by simp))).1, (f.1 99 (k1 _ (by simp))).1, (f.1 100 (k1 _ (by simp))).1, (f.1 104 (k1 _ (by simp))).2, (f.2.2.1 ja 2).1, (f.2.2.1 ja 12).1]
  exact h
theorem MkI.add (h : MkI ra jx ja σ) (b0 : gI σ (ra 98) 0 ≤ 4000) (b1 : 0 ≤ gI σ (ra 98) 1) (e98 : gI σ' (ra 98) 0 = gI σ (ra 98) 0) (e98b : gI σ' (ra 98) 1 = gI σ (ra 98) 1 + 1) (e2 : gI σ' (jx ja 2) = gI σ (jx ja 2)) (e12 : gI σ' (jx ja 12) = gI σ (jx ja 12))
    (e : ∀ i : Nat, i ≠ (4000 + gI σ (ra 98) 1).toNat → gI σ' (ra 99) i = gI σ (ra 99) i ∧ gI σ' (ra 100) i = gI σ (ra 100) i ∧ gJ σ' (ra 104) i = gJ σ (ra 104) i) (hc : MkC ra jx ja σ' (4000 + gI σ (ra 98) 1).toNat) : MkI ra jx ja σ' := by
  constructor
  · intro i hi
    rw [e98] at hi
    have w := e i (by omega)
    exact (h.1 i hi).eq e2 e12 w.1 w.2.1 w.2.2
  · intro i hi
    rw [e98b] at hi
    by_cases q : 4000 + i = (4000 + gI σ (ra 98) 1).toNat
    · rw [q]; exact hc
    · have w := e (4000 + i) q
      exact (h.2 i (by omega)).eq e2 e12 w.1 w.2.1 w.2.2
end MK

/-- how many of the first n channels go to t -/
def cT (ra : Nat → Nat) (σ : Sg) (t n : Int) : Int := sumN n.toNat (fun c => if gI σ (ra 52) c.toNat = t then 1 else 0)
/-- channels stand in the order of the tasks they go to -/
def LyI (ra : Nat → Nat) (jx : Nat → Nat → Nat) (rm ja : Nat) (σ : Sg) : Prop :=
  (∀ c d : Nat, c ≤ d → (d : Int) < gI σ rm 50 → gI σ (ra 52) c ≤ gI σ (ra 52) d) ∧
  (∀ c : Nat, (c : Int) < gI σ rm 50 → gI σ (ra 52) c < gI σ rm 36 ∧ (gI σ (ra 53) c = 1 → 0 ≤ gI σ (jx ja 5) (gI σ (ra 38) (gI σ (ra 52) c).toNat).toNat)) ∧
  (∀ t : Int, 0 ≤ t → t < gI σ rm 36 → gI σ (ra 38) t.toNat < gI σ ja 0)
/-- the channel that a task read last -/
def LcI (ra : Nat → Nat) (rm : Nat) (σ : Sg) : Prop := ∀ t : Nat, t < 64 → gI σ (ra 45) t ≠ -1 → ∃ c : Nat, (c : Int) ≤ gI σ (ra 45) t ∧ (c : Int) < gI σ rm 50 ∧ gI σ (ra 52) c = t
section LY
variable {ra : Nat → Nat} {jx : Nat → Nat → Nat} {rm ja : Nat} {σ σ' : Sg} {K S : List Nat}
theorem cT_succ {t n : Int} (h : 0 ≤ n) : cT ra σ t (n + 1) = cT ra σ t n + (if gI σ (ra 52) n.toNat = t then 1 else 0) := by
  unfold cT
  have e : (n + 1).toNat = n.toNat + 1 := by omega
  have e2 : ((n.toNat : Nat) : Int) = n := by omega
  rw [e]; simp only [sumN, e2]
theorem sum_win {g : Int → Int} {a b : Int} (ha : 0 ≤ a) (hab : a ≤ b) (h1 : ∀ i, g i ≤ 1) (h0 : ∀ i : Int, 0 ≤ i → (i < a ∨ b ≤ i) → g i ≤ 0) : ∀ n : Nat, sumN n g ≤ (if (n : Int) ≤ a then 0 else if (n : Int) ≤ b then n - a else b - a) := by
  intro n
  induction n with
  | zero => simp only [sumN]; split <;> (try split) <;> omega
  | succ n ih =>
    simp only [sumN]
    have k1 := h1 n
    have k2 := h0 n (by omega)
    by_cases q1 : (n : Int) < a
    · have := k2 (Or.inl q1)
      rw [if_pos (by omega)] at ih; rw [if_pos (by omega)]; omega
    · by_cases q2 : b ≤ (n : Int)
      · have := k2 (Or.inr q2)
        split at ih
        · rw [if_neg (by omega), if_neg (by omega)]; omega
        · rw [if_neg (by omega), if_neg (by omega)]
          split at ih <;> omega
      · split at ih
        · rw [if_neg (by omega), if_pos (by omega)]; omega
        · rw [if_pos (by omega)] at ih; rw [if_neg (by omega), if_pos (by omega)]; omega
theorem cT_win {t a b n : Int} (ha : 0 ≤ a) (hab : a ≤ b) (hn : 0 ≤ n) (h : ∀ i : Int, 0 ≤ i → i < n → (i < a ∨ b ≤ i) → gI σ (ra 52) i.toNat ≠ t) : cT ra σ t n ≤ b - a := by
  have e : cT ra σ t n = sumN n.toNat (fun c => if gI σ (ra 52) c.toNat = t ∧ c < n then 1 else 0) := by
    unfold cT
    refine sumN_congr (fun i hi => ?_)
    have : i < n := by omega
    simp only [this, and_true]
  have w := sum_win (g := fun c => if gI σ (ra 52) c.toNat = t ∧ c < n then 1 else 0) ha hab (fun i => by split <;> omega) (fun i h0 hi => by
    by_cases q : i < n
    · rw [if_neg (fun z => h i h0 q hi z.1)]; omega
    · rw [if_neg (fun z => q z.2)]; omega) n.toNat
  rw [e]
  split at w
  · omega
  · split at w <;> omega
theorem LyI.mid (h : LyI ra jx rm ja σ) {t f c : Int} (hf : 0 ≤ f ∧ f ≤ gI σ rm 50) (h1 : ∀ i : Nat, (i : Int) < f → gI σ (ra 52) i ≠ t) (h2 : f < gI σ rm 50 → gI σ (ra 52) f.toNat = t) (hc : f ≤ c) (hc2 : c < f + cT ra σ t (gI σ rm 50)) : c < gI σ rm 50 ∧ gI σ (ra 52) c.toNat = t := by
  have e : ∀ i : Int, 0 ≤ i → ((i.toNat : Nat) : Int) = i := fun i hi => by omega
  have w := cT_win (ra := ra) (σ := σ) (t := t) (a := f) (b := gI σ rm 50) (n := gI σ rm 50) hf.1 hf.2 (by omega) (fun i h0 hn hi => h1 i.toNat (by omega))
  have hcc : c < gI σ rm 50 := by omega
  refine ⟨hcc, ?_⟩
  have e1 := h2 (by omega)
  have e2 := h.1 f.toNat c.toNat (by omega) (by omega)
  by_cases q : gI σ (ra 52) c.toNat = t
  · exact q
  · have w2 := cT_win (ra := ra) (σ := σ) (t := t) (a := f) (b := c) (n := gI σ rm 50) hf.1 hc (by omega) (fun i h0 hn hi => by
      rcases hi with z | z
      · exact h1 i.toNat (by omega)
      · have e3 := h.1 c.toNat i.toNat (by omega) (by omega)
        omega)
    omega
theorem LyI.fr (h : LyI ra jx rm ja σ) (hja : ja = ra 15 ∨ ja = ra 16) (f : Fr ra jx rm K S σ σ') (hK : ([15, 16, 38, 52, 53].all fun k => !K.contains k) = true) (hS : ([36, 50].all fun k => !S.contains k) = true) : LyI ra jx rm ja σ' := by
  have k1 : ∀ k ∈ [15, 16, 38, 52, 53], k ∉ K := fun k hk => by simpa using List.all_eq_true.mp hK k hk
  have k2 : ∀ k ∈ [36, 50], k ∉ S := fun k hk => by simpa using List.all_eq_true.mp hS k hk
  unfold LyI at *
  rw [f.ob hja (by simp only [List.all_cons, List.all_nil, Bool.and_true, Bool.and_eq_true] at hK ⊢; exact ⟨hK.1, hK.2.1⟩), (f.1 38 (k1 _ (by simp))).1, (f.1 52 (k1 _ (by simp))).1, (f.1 53 (k1 _ (by simp))).1, (f.2.1 36 (k2 _ (by simp))).1, (f.2.1 50 (k2 _ (by simp))).1, (f.2.2.1 ja 5).1]
  exact h
theorem LcI.fr (h : LcI ra rm σ) (f : Fr ra jx rm K S σ σ') (hK : ([45, 52].all fun k => !K.contains k) = true) (hS : ([50].all fun k => !S.contains k) = true) : LcI ra rm σ' := by
  have k1 : ∀ k ∈ [45, 52], k ∉ K := fun k hk => by simpa using List.all_eq_true.mp hK k hk
  have k2 : ∀ k ∈ [50], k ∉ S := fun k hk => by simpa using List.all_eq_true.mp hS k hk
  unfold LcI at *
  rw [(f.1 45 (k1 _ (by simp))).1, (f.1 52 (k1 _ (by simp))).1, (f.2.1 50 (k2 _ (by simp))).1]
  exact h
theorem LcI.up (h : LcI ra rm σ) {t c : Int} (ht : 0 ≤ t) (hc : 0 ≤ c ∧ c < gI σ rm 50) (hto : gI σ (ra 52) c.toNat = t) (e45 : ∀ i : Nat, gI σ' (ra 45) i = if i = t.toNat then c else gI σ (ra 45) i) (e52 : gI σ' (ra 52) = gI σ (ra 52)) (e50 : gI σ' rm 50 = gI σ rm 50) : LcI ra rm σ' := by
  intro s h64 hs
  rw [e45 s] at hs ⊢
  rw [e52, e50]
  by_cases q : s = t.toNat
  · rw [if_pos q]
    exact ⟨c.toNat, by omega, by omega, by rw [hto]; omega⟩
  · rw [if_neg q] at hs ⊢
    exact h s h64 hs
end LY
theorem ThH.fr {ra : Nat → Nat} {jx : Nat → Nat → Nat} {rm : Nat} {σ σ' : Sg} {t : Int} {K S : List Nat} (h : ThH ra rm σ t) (f : Fr ra jx rm K S σ σ') (hK : ([46, 47, 54, 55, 59, 65].all fun k => !K.contains k) = true) (hS : ([66, 67].all fun k => !S.contains k) = true) : ThH ra rm σ' t := by
  have k1 : ∀ k ∈ [46, 47, 54, 55, 59, 65], k ∉ K := fun k hk => by simpa using List.all_eq_true.mp hK k hk
  have k2 : ∀ k ∈ [66, 67], k ∉ S := fun k hk => by simpa using List.all_eq_true.mp hS k hk
  obtain ⟨own, ps, bm, F, h⟩ := h
  refine ⟨own, ps, bm, F, ?_⟩
  unfold ThI fI slo at *
  rw [(f.1 46 (k1 _ (by simp))).1, (f.1 47 (k1 _ (by simp))).1, (f.1 54 (k1 _ (by simp))).1, (f.1 55 (k1 _ (by simp))).1, (f.1 59 (k1 _ (by simp))).1, (f.1 65 (k1 _ (by simp))).1, (f.2.1 66 (k2 _ (by simp))).1, (f.2.1 67 (k2 _ (by simp))).1]
  exact h

theorem sh33 (u : UInt64) : 0 ≤ (u >>> ((i32 33).toInt64.toUInt64 &&& Int64.toUInt64 63)).toInt64.toInt ∧ (u >>> ((i32 33).toInt64.toUInt64 &&& Int64.toUInt64 63)).toInt64.toInt < 2147483648 := by
  have e : ((i32 33).toInt64.toUInt64 &&& Int64.toUInt64 63) = 33 := by decide
  rw [e]
  have h1 : u.toNat < 2 ^ 64 := UInt64.toNat_lt u
  have h2 : (u >>> 33).toNat = u.toNat / 2 ^ 33 := by
    rw [UInt64.toNat_shiftRight]
    have e2 : (33 : UInt64).toNat % 64 = 33 := by decide
    rw [e2, Nat.shiftRight_eq_div_pow]
  have h3 : (u >>> 33).toNat < 2147483648 := by rw [h2]; omega
  have h4 : (u >>> 33).toInt64.toInt = ((u >>> 33).toNat : Int) := by
    have : (u >>> 33).toInt64.toInt = (u >>> 33).toBitVec.toInt := rfl
    rw [this, BitVec.toInt_eq_toNat_of_lt]
    · rfl
    · show 2 * (u >>> 33).toNat < 2 ^ 64
      omega
  rw [h4]; omega
theorem mod64 {a : Int64} {n : Int} (ha : 0 ≤ a.toInt ∧ a.toInt < 2147483648) (hn : 1 ≤ n ∧ n ≤ 64) : 0 ≤ (a - a / Int64.ofInt n * Int64.ofInt n).toInt32.toInt ∧ (a - a / Int64.ofInt n * Int64.ofInt n).toInt32.toInt < n := by
  have eb : (Int64.ofInt n).toInt = n := Int64.toInt_ofInt_of_le (by omega) (by omega)
  have hq0 : 0 ≤ a.toInt / n := Int.ediv_nonneg ha.1 (by omega)
  have hq1 : a.toInt / n ≤ a.toInt := Int.ediv_le_self _ ha.1
  have ed : (a / Int64.ofInt n).toInt = a.toInt / n := by
    rw [Int64.toInt_div, eb, Int.tdiv_eq_ediv_of_nonneg ha.1, Int.bmod_def]; omega
  have hm := Int.emod_nonneg a.toInt (b := n) (by omega)
  have hl := Int.emod_lt_of_pos a.toInt (b := n) (by omega)
  have he : a.toInt = n * (a.toInt / n) + a.toInt % n := (Int.mul_ediv_add_emod a.toInt n).symm
  have ec : n * (a.toInt / n) = a.toInt / n * n := Int.mul_comm _ _
  have em : (a / Int64.ofInt n * Int64.ofInt n).toInt = a.toInt / n * n := by
    rw [Int64.toInt_mul, ed, eb, Int.bmod_def]; omega
  have es : (a - a / Int64.ofInt n * Int64.ofInt n).toInt = a.toInt % n := by
    rw [Int64.toInt_sub, em, Int.bmod_def]; omega
  rw [i32s (by omega) (by omega), es]; omega
theorem i64_nz {n : Int} (hn : 1 ≤ n ∧ n ≤ 64) : Int64.ofInt n ≠ 0 := fun q => by
  have eb : (Int64.ofInt n).toInt = n := Int64.toInt_ofInt_of_le (by omega) (by omega)
  rw [q] at eb; have : (0 : Int64).toInt = 0 := rfl
  omega

abbrev KSR (jx : Nat → Nat → Nat) (ja : Nat) (σ : Sg) (o : Int) : Prop := gI σ (jx ja 2) o.toNat = 0 ∨ gI σ (jx ja 2) o.toNat = 10 ∨ gI σ (jx ja 2) o.toNat = 11
/-- the tasks of the first n operators -/
def LyF (ra : Nat → Nat) (jx : Nat → Nat → Nat) (rm ja : Nat) (σ : Sg) (n : Int) : Prop :=
  ∀ o : Int, 0 ≤ o → o < n → (KSR jx ja σ o → gI σ (ra 37) o.toNat + 1 ≤ gI σ rm 36) ∧ (¬ KSR jx ja σ o → gI σ (ra 37) o.toNat + gI σ rm 33 ≤ gI σ rm 36) ∧ (∀ t : Int, gI σ (ra 37) o.toNat ≤ t → (KSR jx ja σ o → t = gI σ (ra 37) o.toNat) → (¬ KSR jx ja σ o → t < gI σ (ra 37) o.toNat + gI σ rm 33) → gI σ (ra 38) t.toNat = o)
def LyT (ra : Nat → Nat) (jx : Nat → Nat → Nat) (rm ja : Nat) (σ : Sg) (n : Int) : Prop := ∀ t : Int, 0 ≤ t → t < gI σ rm 36 → gI σ (ra 38) t.toNat < n ∧ (KSR jx ja σ (gI σ (ra 38) t.toNat) ∨ gI σ (ra 39) t.toNat < gI σ rm 33)
/-- amid the tasks of operator n, which began at B -/
def LyG (ra : Nat → Nat) (jx : Nat → Nat → Nat) (rm ja : Nat) (σ : Sg) (n B : Int) : Prop :=
  LyF ra jx rm ja σ n ∧ (∀ t : Int, 0 ≤ t → t < B → gI σ (ra 38) t.toNat < n ∧ (KSR jx ja σ (gI σ (ra 38) t.toNat) ∨ gI σ (ra 39) t.toNat < gI σ rm 33)) ∧ (∀ t : Int, B ≤ t → t < gI σ rm 36 → gI σ (ra 38) t.toNat = n ∧ gI σ (ra 39) t.toNat = t - B) ∧ 0 ≤ B ∧ B ≤ gI σ rm 36
section LO
variable {ra : Nat → Nat} {jx : Nat → Nat → Nat} {rm ja : Nat} {σ σ' : Sg} {n B : Int}
theorem LyF.eq (h : LyF ra jx rm ja σ n) (hr : ∀ i, 0 ≤ gI σ (ra 37) i) (e2 : gI σ' (jx ja 2) = gI σ (jx ja 2)) (e33 : gI σ' rm 33 = gI σ rm 33) (e36 : gI σ rm 36 ≤ gI σ' rm 36) (e37 : ∀ i : Int, 0 ≤ i → i < n → gI σ' (ra 37) i.toNat = gI σ (ra 37) i.toNat) (e38 : ∀ t : Int, 0 ≤ t → t < gI σ rm 36 → gI σ' (ra 38) t.toNat = gI σ (ra 38) t.toNat) : LyF ra jx rm ja σ' n := by
  intro o h0 h1
  have w := h o h0 h1
  have e := e37 o h0 h1
  have hp := hr o.toNat
  unfold KSR at *
  rw [e2, e33, e]
  refine ⟨fun q => ?_, fun q => ?_, fun t a b c => ?_⟩
  · have := w.1 q; omega
  · have := w.2.1 q; omega
  · rw [e38 t (by omega) ?_]
    · exact w.2.2 t a b c
    · by_cases q : gI σ (jx ja 2) o.toNat = 0 ∨ gI σ (jx ja 2) o.toNat = 10 ∨ gI σ (jx ja 2) o.toNat = 11
      · have := w.1 q; have := b q; omega
      · have := w.2.1 q; have := c q; omega
/-- an operator begins -/
theorem LyG.new (h : LyF ra jx rm ja σ n) (ht : LyT ra jx rm ja σ n) (hr : ∀ i, 0 ≤ gI σ (ra 37) i) (h0 : 0 ≤ n) (hb : 0 ≤ gI σ rm 36) (e2 : gI σ' (jx ja 2) = gI σ (jx ja 2)) (e33 : gI σ' rm 33 = gI σ rm 33) (e36 : gI σ' rm 36 = gI σ rm 36) (e37 : ∀ i : Nat, i ≠ n.toNat → gI σ' (ra 37) i = gI σ (ra 37) i) (e38 : gI σ' (ra 38) = gI σ (ra 38)) (e39 : gI σ' (ra 39) = gI σ (ra 39)) : LyG ra jx rm ja σ' n (gI σ rm 36) := by
  refine ⟨h.eq hr e2 e33 (by omega) (fun i a b => e37 _ (by omega)) (fun t _ _ => by rw [e38]), fun t a b => ?_, fun t a b => absurd b (by omega), hb, by omega⟩
  have w := ht t a b
  unfold KSR at *
  rw [e2, e33, e38, e39]; exact w
/-- one more task -/
theorem LyG.more (h : LyG ra jx rm ja σ n B) (hr : ∀ i, 0 ≤ gI σ (ra 37) i) (e2 : gI σ' (jx ja 2) = gI σ (jx ja 2)) (e33 : gI σ' rm 33 = gI σ rm 33) (e36 : gI σ' rm 36 = gI σ rm 36 + 1) (e37 : gI σ' (ra 37) = gI σ (ra 37)) (e38 : ∀ i : Nat, gI σ' (ra 38) i = if i = (gI σ rm 36).toNat then n else gI σ (ra 38) i) (e39 : ∀ i : Nat, gI σ' (ra 39) i = if i = (gI σ rm 36).toNat then gI σ rm 36 - B else gI σ (ra 39) i) : LyG ra jx rm ja σ' n B := by
  obtain ⟨h1, h2, h3, h4, h5⟩ := h
  refine ⟨h1.eq hr e2 e33 (by omega) (fun i _ _ => by rw [e37]) (fun t a b => by rw [e38, if_neg (by omega)]), fun t a b => ?_, fun t a b => ?_, h4, by omega⟩
  · have w := h2 t a b
    unfold KSR at *
    rw [e2, e33, e38, e39, if_neg (by omega), if_neg (by omega)]; exact w
  · by_cases q : t = gI σ rm 36
    · rw [e38, e39, if_pos (by omega), if_pos (by omega)]; exact ⟨rfl, by omega⟩
    · rw [e38, e39, if_neg (by omega), if_neg (by omega)]; exact h3 t a (by omega)
/-- an operator ends -/
theorem LyG.fin (h : LyG ra jx rm ja σ n B) (h0 : 0 ≤ n) (hB : gI σ (ra 37) n.toNat = B) (hp : (KSR jx ja σ n → gI σ rm 36 = B + 1) ∧ (¬ KSR jx ja σ n → gI σ rm 36 = B + gI σ rm 33)) : LyF ra jx rm ja σ (n + 1) ∧ LyT ra jx rm ja σ (n + 1) := by
  obtain ⟨h1, h2, h3, h4, h5⟩ := h
  constructor
  · intro o a b
    by_cases q : o = n
    · subst q
      rw [hB]
      refine ⟨fun z => by have := hp.1 z; omega, fun z => by have := hp.2 z; omega, fun t x y z => ?_⟩
      refine (h3 t x ?_).1
      by_cases w : KSR jx ja σ o
      · have := hp.1 w; have := y w; omega
      · have := hp.2 w; have := z w; omega
    · exact h1 o a (by omega)
  · intro t a b
    by_cases q : t < B
    · have w := h2 t a q; exact ⟨by omega, w.2⟩
    · have w := h3 t (by omega) b
      rw [w.1]
      refine ⟨by omega, ?_⟩
      by_cases z : KSR jx ja σ n
      · exact Or.inl z
      · have := hp.2 z; exact Or.inr (by omega)
/-- channels to the first tasks, up to n -/
def LyC (ra : Nat → Nat) (jx : Nat → Nat → Nat) (rm ja : Nat) (σ : Sg) (n : Int) : Prop :=
  (∀ c d : Nat, c ≤ d → (d : Int) < gI σ rm 50 → gI σ (ra 52) c ≤ gI σ (ra 52) d) ∧
  (∀ c : Nat, (c : Int) < gI σ rm 50 → gI σ (ra 52) c ≤ n ∧ (gI σ (ra 53) c = 1 → 0 ≤ gI σ (jx ja 5) (gI σ (ra 38) (gI σ (ra 52) c).toNat).toNat))
theorem LyC.app {m v2 : Int} (h : LyC ra jx rm ja σ m) (hm : m ≤ n) (e5 : gI σ' (jx ja 5) = gI σ (jx ja 5)) (e38 : gI σ' (ra 38) = gI σ (ra 38))
    (p1 : ∀ i : Nat, (i : Int) < gI σ rm 50 → gI σ' (ra 52) i = gI σ (ra 52) i ∧ gI σ' (ra 53) i = gI σ (ra 53) i) (p2 : ∀ i : Nat, gI σ rm 50 ≤ (i : Int) → (i : Int) < gI σ' rm 50 → gI σ' (ra 52) i = n ∧ gI σ' (ra 53) i = v2)
    (k2 : v2 = 1 → 0 ≤ gI σ (jx ja 5) (gI σ (ra 38) n.toNat).toNat) : LyC ra jx rm ja σ' n := by
  constructor
  · intro c d hcd hd
    by_cases q : (d : Int) < gI σ rm 50
    · rw [(p1 c (by omega)).1, (p1 d q).1]; exact h.1 c d hcd q
    · rw [(p2 d (by omega) hd).1]
      by_cases w : (c : Int) < gI σ rm 50
      · rw [(p1 c w).1]; have := (h.2 c w).1; omega
      · rw [(p2 c (by omega) (by omega)).1]; omega
  · intro c hc
    rw [e5, e38]
    by_cases w : (c : Int) < gI σ rm 50
    · rw [(p1 c w).1, (p1 c w).2]; have z := h.2 c w; exact ⟨by omega, z.2⟩
    · have z := p2 c (by omega) hc
      rw [z.1, z.2]; exact ⟨by omega, k2⟩
theorem LyT.eq (h : LyT ra jx rm ja σ n) (e2 : gI σ' (jx ja 2) = gI σ (jx ja 2)) (e33 : gI σ' rm 33 = gI σ rm 33) (e36 : gI σ' rm 36 = gI σ rm 36) (e38 : gI σ' (ra 38) = gI σ (ra 38)) (e39 : gI σ' (ra 39) = gI σ (ra 39)) : LyT ra jx rm ja σ' n := by
  unfold LyT KSR at *
  rw [e2, e33, e36, e38, e39]; exact h
theorem LyC.mono {m : Int} (h : LyC ra jx rm ja σ m) (hm : m ≤ n) : LyC ra jx rm ja σ n := ⟨h.1, fun c hc => ⟨by have := (h.2 c hc).1; omega, (h.2 c hc).2⟩⟩
theorem LyFT.fr {K S : List Nat} (h : LyF ra jx rm ja σ n ∧ LyT ra jx rm ja σ n) (f : Fr ra jx rm K S σ σ') (hK : ([37, 38, 39].all fun k => !K.contains k) = true) (hS : ([33, 36].all fun k => !S.contains k) = true) : LyF ra jx rm ja σ' n ∧ LyT ra jx rm ja σ' n := by
  have k1 : ∀ k ∈ [37, 38, 39], k ∉ K := fun k hk => by simpa using List.all_eq_true.mp hK k hk
  have k2 : ∀ k ∈ [33, 36], k ∉ S := fun k hk => by simpa using List.all_eq_true.mp hS k hk
  unfold LyF LyT KSR at *
  rw [(f.1 37 (k1 _ (by simp))).1, (f.1 38 (k1 _ (by simp))).1, (f.1 39 (k1 _ (by simp))).1, (f.2.1 33 (k2 _ (by simp))).1, (f.2.1 36 (k2 _ (by simp))).1, (f.2.2.1 ja 2).1]
  exact h
end LO
theorem LyI.of {ra : Nat → Nat} {jx : Nat → Nat → Nat} {rm ja : Nat} {σ : Sg} (ht : LyT ra jx rm ja σ (gI σ ja 0)) (hc : LyC ra jx rm ja σ (gI σ rm 36 - 1)) : LyI ra jx rm ja σ :=
  ⟨hc.1, fun c h => ⟨by have := (hc.2 c h).1; omega, (hc.2 c h).2⟩, fun t a b => (ht t a b).1⟩
theorem LcI.none {ra : Nat → Nat} {rm : Nat} {σ : Sg} (h : ∀ i : Nat, (i : Int) < 64 → gI σ (ra 45) i = -1) : LcI ra rm σ := fun t h64 q => absurd (h t (by omega)) q

section RE
variable {ra : Nat → Nat} {jx : Nat → Nat → Nat} {rm ja : Nat} {σ σ' : Sg}
/-- where a kept record stands in the order of the records taken back -/
abbrev kc (ra : Nat → Nat) (σ : Sg) (i : Int) : Int := 4 * gI σ (ra 100) i.toNat + gI σ (ra 101) i.toNat
/-- kept records before code q, place k -/
def bl (ra : Nat → Nat) (σ : Sg) (q k : Int) : Int := sumN (gI σ (ra 98) 0).toNat (fun i => if kc ra σ i < q ∨ (kc ra σ i = q ∧ i < k) then 1 else 0)
theorem sumN_le1 {n : Nat} {f g : Int → Int} (h : ∀ i : Int, 0 ≤ i → i < n → f i ≤ g i) : sumN n f ≤ sumN n g := by
  induction n with
  | zero => simp [sumN]
  | succ n ih =>
    have h1 := ih (fun i a b => h i a (by omega)); have h2 := h n (by omega) (by omega)
    simp only [sumN]; omega
theorem sumN_one {n : Nat} {f g : Int → Int} {j : Int} (h : ∀ i : Int, 0 ≤ i → i < n → i ≠ j → f i = g i) (hj : 0 ≤ j) (hj2 : j < n) : sumN n f - f j = sumN n g - g j := by
  induction n with
  | zero => omega
  | succ n ih =>
    simp only [sumN]
    by_cases q : j = n
    · subst q
      have := sumN_congr (n := n) (f := g) (f' := f) (fun i hi => h i (by omega) (by omega) (by omega))
      omega
    · have h1 := ih (fun i a b => h i a (by omega)) (by omega)
      have h2 := h n (by omega) (by omega) (fun z => q z.symm)
      omega
theorem bl_next {q k : Int} (hk : 0 ≤ k) (hn : k < gI σ (ra 98) 0) (e : kc ra σ k = q) : bl ra σ q (k + 1) = bl ra σ q k + 1 := by
  have w := sumN_one (n := (gI σ (ra 98) 0).toNat) (f := fun i => if kc ra σ i < q ∨ (kc ra σ i = q ∧ i < k + 1) then 1 else 0) (g := fun i => if kc ra σ i < q ∨ (kc ra σ i = q ∧ i < k) then (1 : Int) else 0) (j := k) (fun i _ _ h => by
    by_cases z : kc ra σ i < q ∨ (kc ra σ i = q ∧ i < k)
    · rw [if_pos z, if_pos (by rcases z with z | z; exact Or.inl z; exact Or.inr ⟨z.1, by omega⟩)]
    · rw [if_neg z, if_neg (fun y => z (by rcases y with y | y; exact Or.inl y; exact Or.inr ⟨y.1, by omega⟩))]) hk (by omega)
  unfold bl
  have e1 : (if kc ra σ k < q ∨ (kc ra σ k = q ∧ k < k + 1) then (1 : Int) else 0) = 1 := if_pos (Or.inr ⟨e, by omega⟩)
  have e2 : (if kc ra σ k < q ∨ (kc ra σ k = q ∧ k < k) then (1 : Int) else 0) = 0 := if_neg (fun y => by rcases y with y | y <;> omega)
  simp only [e1, e2] at w
  omega
theorem bl_mono {q k : Int} : bl ra σ q k ≤ bl ra σ q (k + 1) := by
  unfold bl
  refine sumN_le1 (fun i _ _ => ?_)
  by_cases z : kc ra σ i < q ∨ (kc ra σ i = q ∧ i < k)
  · rw [if_pos z, if_pos (by rcases z with z | z; exact Or.inl z; exact Or.inr ⟨z.1, by omega⟩)]; omega
  · rw [if_neg z]; split <;> omega
theorem bl_turn {q k : Int} : bl ra σ q k ≤ bl ra σ (q + 1) 0 := by
  unfold bl
  refine sumN_le1 (fun i _ _ => ?_)
  by_cases z : kc ra σ i < q ∨ (kc ra σ i = q ∧ i < k)
  · rw [if_pos z, if_pos (Or.inl (by rcases z with z | z <;> omega))]; omega
  · rw [if_neg z]; split <;> omega
theorem bl_pos {q k : Int} : 0 ≤ bl ra σ q k := by
  have := sumN_le1 (n := (gI σ (ra 98) 0).toNat) (f := fun _ => 0) (g := fun i => if kc ra σ i < q ∨ (kc ra σ i = q ∧ i < k) then (1 : Int) else 0) (fun i _ _ => by split <;> omega)
  have z : ∀ n : Nat, sumN n (fun _ => 0) = 0 := fun n => by induction n with
    | zero => rfl
    | succ n ih => simp only [sumN, ih]; rfl
  rw [z] at this; exact this
theorem bl_le {q k : Int} : bl ra σ q k ≤ 1 * ((gI σ (ra 98) 0).toNat : Int) := sumN_le (fun i _ => by split <;> omega)
theorem bl_lt {q k : Int} (hk : 0 ≤ k) (hn : k < gI σ (ra 98) 0) (e : kc ra σ k = q) : bl ra σ q k < gI σ (ra 98) 0 := by
  have h1 := bl_next hk hn e
  have h2 := bl_le (ra := ra) (σ := σ) (q := q) (k := k + 1)
  omega
theorem bl_fr {q k : Int} {K S : List Nat} (f : Fr ra jx rm K S σ σ') (hK : ([98, 100, 101].all fun k => !K.contains k) = true) : bl ra σ' q k = bl ra σ q k := by
  have k1 : ∀ k ∈ [98, 100, 101], k ∉ K := fun k hk => by simpa using List.all_eq_true.mp hK k hk
  unfold bl kc
  rw [(f.1 98 (k1 _ (by simp))).1, (f.1 100 (k1 _ (by simp))).1, (f.1 101 (k1 _ (by simp))).1]
/-- channels from t among the first n -/
def cF (ra : Nat → Nat) (σ : Sg) (t n : Int) : Int := sumN n.toNat (fun c => if gI σ (ra 51) c.toNat = t then 1 else 0)
/-- channels from tasks before t -/
def cB (ra : Nat → Nat) (σ : Sg) (t n : Int) : Int := sumN n.toNat (fun c => if gI σ (ra 51) c.toNat < t then 1 else 0)
theorem cF_succ {t n : Int} (h : 0 ≤ n) : cF ra σ t (n + 1) = cF ra σ t n + (if gI σ (ra 51) n.toNat = t then 1 else 0) := by
  unfold cF
  have e : (n + 1).toNat = n.toNat + 1 := by omega
  have e2 : ((n.toNat : Nat) : Int) = n := by omega
  rw [e]; simp only [sumN, e2]
theorem cF_mono {t n m : Int} (h : 0 ≤ n) (hm : n ≤ m) : cF ra σ t n ≤ cF ra σ t m := by
  have : ∀ d : Nat, cF ra σ t n ≤ cF ra σ t (n + d) := fun d => by
    induction d with
    | zero => simp
    | succ d ih =>
      have w := cF_succ (ra := ra) (σ := σ) (t := t) (n := n + d) (by omega)
      rw [show n + ((d + 1 : Nat) : Int) = n + d + 1 by omega, w]
      split <;> omega
  have w := this (m - n).toNat
  rw [show n + ((m - n).toNat : Int) = m by omega] at w; exact w
theorem cB_next {t n : Int} : cB ra σ (t + 1) n = cB ra σ t n + cF ra σ t n := by
  unfold cB cF
  generalize n.toNat = m
  induction m with
  | zero => simp [sumN]
  | succ m ih =>
    simp only [sumN]
    rw [ih]
    by_cases a : gI σ (ra 51) (m : Int).toNat < t
    · rw [if_pos a, if_pos (by omega), if_neg (by omega)]; omega
    · by_cases b : gI σ (ra 51) (m : Int).toNat = t
      · rw [if_neg a, if_pos (by omega), if_pos b]; omega
      · rw [if_neg a, if_neg (by omega), if_neg b]; omega
theorem cB_le {t n : Int} (h : 0 ≤ n) : cB ra σ t n ≤ n := by
  have := sumN_le (n := n.toNat) (f := fun c => if gI σ (ra 51) c.toNat < t then (1 : Int) else 0) (b := 1) (fun i _ => by split <;> omega)
  unfold cB; omega
theorem cB_nn {t n : Int} : 0 ≤ cB ra σ t n := by
  unfold cB
  generalize n.toNat = m
  induction m with
  | zero => simp [sumN]
  | succ m ih => simp only [sumN]; split <;> omega
end RE
theorem RecI.zero {ra : Nat → Nat} {rm : Nat} {σ : Sg} {ps : Int → Int} (h : RecI ra rm σ (fun a => if 0 ≤ a ∧ a < 4000 then 64 else -1) ps) : gI σ rm 80 = 0 := by
  have z : ∀ n : Nat, n ≤ 64 → sumN n (fI σ (ra 78)) = 0 := fun n => by
    induction n with
    | zero => intro _; rfl
    | succ n ih =>
      intro hn
      simp only [sumN, ih (by omega)]
      have w := h.1.2.2 n (by omega)
      by_cases q : 0 < fI σ (ra 78) n
      · have w2 := (w.2.2 q).1
        dsimp only at w2
        by_cases y : 0 ≤ fI σ (ra 76) n ∧ fI σ (ra 76) n < 4000
        · rw [if_pos y] at w2; omega
        · rw [if_neg y] at w2; omega
      · have := w.1; omega
  rw [h.2.2.2.2]; exact z 64 (by omega)
/-- a run that is laid, with nothing on its way -/
def BgI (ra : Nat → Nat) (jx : Nat → Nat → Nat) (rm ja : Nat) (n : Int) (σ : Sg) : Prop := ThE ra rm σ ∧ (LyF ra jx rm ja σ n ∧ LyT ra jx rm ja σ n) ∧ LyI ra jx rm ja σ ∧ MkI ra jx ja σ ∧ gI σ rm 67 = 0 ∧ (∀ i : Nat, (i : Int) < 1100 → gI σ (ra 54) i = 0) ∧ LcI ra rm σ ∧ 1 ≤ gI σ rm 36 ∧ 1 ≤ gI σ rm 33
theorem BgI.fr {ra : Nat → Nat} {jx : Nat → Nat → Nat} {rm ja : Nat} {n : Int} {σ σ' : Sg} {K S : List Nat} (h : BgI ra jx rm ja n σ) (hja : ja = ra 15 ∨ ja = ra 16) (f : Fr ra jx rm K S σ σ') (hK : ([15, 16, 37, 38, 39, 45, 46, 47, 52, 53, 54, 55, 59, 65, 98, 99, 100, 104].all fun k => !K.contains k) = true) (hS : ([33, 36, 50, 66, 67].all fun k => !S.contains k) = true) : BgI ra jx rm ja n σ' := by
  have k1 : ∀ k ∈ [15, 16, 37, 38, 39, 45, 46, 47, 52, 53, 54, 55, 59, 65, 98, 99, 100, 104], k ∉ K := fun k hk => by simpa using List.all_eq_true.mp hK k hk
  have k2 : ∀ k ∈ [33, 36, 50, 66, 67], k ∉ S := fun k hk => by simpa using List.all_eq_true.mp hS k hk
  have a : ∀ L : List Nat, (∀ x ∈ L, x ∈ [15, 16, 37, 38, 39, 45, 46, 47, 52, 53, 54, 55, 59, 65, 98, 99, 100, 104]) → (L.all fun k => !K.contains k) = true := fun L hL => List.all_eq_true.mpr fun k hk => by simpa using k1 k (hL k hk)
  have b : ∀ L : List Nat, (∀ x ∈ L, x ∈ [33, 36, 50, 66, 67]) → (L.all fun k => !S.contains k) = true := fun L hL => List.all_eq_true.mpr fun k hk => by simpa using k2 k (hL k hk)
  obtain ⟨h1, h2, h3, h4, h5, h6, h7, h8, h9⟩ := h
  refine ⟨h1.fr f (a _ (by decide)) (b _ (by decide)), LyFT.fr h2 f (a _ (by decide)) (b _ (by decide)), h3.fr hja f (a _ (by decide)) (b _ (by decide)), h4.fr f (a _ (by decide)), ?_, ?_, h7.fr f (a _ (by decide)) (b _ (by decide)), ?_, ?_⟩
  · rw [(f.2.1 67 (k2 _ (by simp))).1]; exact h5
  · rw [(f.1 54 (k1 _ (by simp))).1]; exact h6
  · rw [(f.2.1 36 (k2 _ (by simp))).1]; exact h8
  · rw [(f.2.1 33 (k2 _ (by simp))).1]; exact h9

/-- rows of the pass: times, of those before b, and of all -/
def PtI (ra : Nat → Nat) (rm : Nat) (σ : Sg) (b A : Int) : Prop := 0 ≤ b ∧ b ≤ gI σ rm 117 ∧ (∀ i : Nat, (i : Int) < b → 0 ≤ (gJ σ (ra 115) i).toInt ∧ (gJ σ (ra 115) i).toInt ≤ A) ∧ (∀ i : Nat, (i : Int) < gI σ rm 117 → 0 ≤ (gJ σ (ra 115) i).toInt ∧ (gJ σ (ra 115) i).toInt ≤ A + 1000)
section PA
variable {ra : Nat → Nat} {jx : Nat → Nat → Nat} {rm ja : Nat} {σ σ' : Sg} {b A : Int}
theorem PtI.fr {K S : List Nat} (h : PtI ra rm σ b A) (f : Fr ra jx rm K S σ σ') (hK : ([115].all fun k => !K.contains k) = true) (hS : ([117].all fun k => !S.contains k) = true) : PtI ra rm σ' b A := by
  have k1 : ∀ k ∈ [115], k ∉ K := fun k hk => by simpa using List.all_eq_true.mp hK k hk
  have k2 : ∀ k ∈ [117], k ∉ S := fun k hk => by simpa using List.all_eq_true.mp hS k hk
  unfold PtI at *
  rw [(f.1 115 (k1 _ (by simp))).2, (f.2.1 117 (k2 _ (by simp))).1]
  exact h
theorem PtI.add {v : Int64} (h : PtI ra rm σ b A) (e1 : gI σ' rm 117 = gI σ rm 117 + 1) (e2 : ∀ i : Nat, gJ σ' (ra 115) i = if i = (gI σ rm 117).toNat then v else gJ σ (ra 115) i) (hv : 0 ≤ v.toInt ∧ v.toInt ≤ A + 1000) : PtI ra rm σ' b A := by
  obtain ⟨h1, h2, h3, h4⟩ := h
  refine ⟨h1, by omega, fun i hi => ?_, fun i hi => ?_⟩
  · rw [e2, if_neg (by omega)]; exact h3 i hi
  · rw [e2]; split
    · exact hv
    · exact h4 i (by omega)
theorem PtI.set {v : Int64} {r : Int} (h : PtI ra rm σ b A) (hr : b ≤ r) (e1 : gI σ' rm 117 = gI σ rm 117) (e2 : ∀ i : Nat, gJ σ' (ra 115) i = if i = r.toNat then v else gJ σ (ra 115) i) (hv : 0 ≤ v.toInt ∧ v.toInt ≤ A + 1000) : PtI ra rm σ' b A := by
  obtain ⟨h1, h2, h3, h4⟩ := h
  refine ⟨h1, by omega, fun i hi => ?_, fun i hi => ?_⟩
  · rw [e2, if_neg (by omega)]; exact h3 i hi
  · rw [e2]; split
    · exact hv
    · exact h4 i (by omega)
theorem PtI.lo {i : Int} (h : PtI ra rm σ b A) (h0 : 0 ≤ i) (hi : i < b) : 0 ≤ (gJ σ (ra 115) i.toNat).toInt ∧ (gJ σ (ra 115) i.toNat).toInt ≤ A + 1000 := by
  have := h.2.2.1 i.toNat (by omega); omega
theorem PtI.lo0 {i : Int} (h : PtI ra rm σ b A) (h0 : 0 ≤ i) (hi : i < b) : 0 ≤ (gJ σ (ra 115) i.toNat).toInt ∧ (gJ σ (ra 115) i.toNat).toInt ≤ A := h.2.2.1 i.toNat (by omega)
theorem PtI.mx {x y : Int64} {B : Int} (hx : 0 ≤ x.toInt ∧ x.toInt ≤ B) (hy : 0 ≤ y.toInt ∧ y.toInt ≤ B) : 0 ≤ (maxJ x y).toInt ∧ (maxJ x y).toInt ≤ B := by
  unfold maxJ; split <;> assumption
/-- down is the floor -/
theorem dn_fl {a b : Int64} (ha : -4000000000 ≤ a.toInt ∧ a.toInt ≤ 4000000000) (hb : 1 ≤ b.toInt ∧ b.toInt ≤ 1000) : (dnJ a b).toInt = a.toInt / b.toInt := by
  have z0 : (0 : Int64).toInt = 0 := rfl
  have z1 : (1 : Int64).toInt = 1 := rfl
  unfold dnJ
  split
  · rename_i h
    have h0 : a.toInt < 0 := by rw [Int64.lt_iff_toInt_lt] at h; omega
    have e1 : (-a).toInt = -a.toInt := by rw [Int64.toInt_neg]; exact bm64 ⟨by omega, by omega⟩
    have e2 : (-a + b).toInt = -a.toInt + b.toInt := by rw [Int64.toInt_add, e1]; exact bm64 ⟨by omega, by omega⟩
    have e3 : (-a + b - 1).toInt = -a.toInt + b.toInt - 1 := by rw [Int64.toInt_sub, e2, z1]; exact bm64 ⟨by omega, by omega⟩
    have hq : 0 ≤ (-a.toInt + b.toInt - 1) / b.toInt ∧ (-a.toInt + b.toInt - 1) / b.toInt ≤ -a.toInt + b.toInt - 1 := ⟨Int.ediv_nonneg (by omega) (by omega), Int.ediv_le_self _ (by omega)⟩
    have e4 : ((-a + b - 1) / b).toInt = (-a.toInt + b.toInt - 1) / b.toInt := by
      rw [Int64.toInt_div, e3, Int.tdiv_eq_ediv_of_nonneg (by omega)]; exact bm64 ⟨by omega, by omega⟩
    rw [Int64.toInt_neg, e4, bm64 ⟨by omega, by omega⟩]
    generalize a.toInt = x at *
    generalize b.toInt = y at *
    have m1 := Int.mul_ediv_add_emod (-x + y - 1) y
    have m2 := Int.mul_ediv_add_emod x y
    have r1 := Int.emod_nonneg (-x + y - 1) (by omega : y ≠ 0)
    have r2 := Int.emod_lt_of_pos (-x + y - 1) (by omega : 0 < y)
    have r3 := Int.emod_nonneg x (by omega : y ≠ 0)
    have r4 := Int.emod_lt_of_pos x (by omega : 0 < y)
    generalize (-x + y - 1) / y = p at *
    generalize (-x + y - 1) % y = s at *
    generalize x / y = q at *
    generalize x % y = t at *
    -- y p + s = -x + y - 1 ; y q + t = x ; hence y (p + q) = y - 1 - s - t
    have k : y * (p + q) = y - 1 - s - t := by rw [Int.mul_add]; omega
    have k1 : y * (p + q) < y * 1 := by omega
    have k2 : y * (-1) < y * (p + q) := by omega
    have l1 := Int.lt_of_mul_lt_mul_left k1 (by omega)
    have l2 := Int.lt_of_mul_lt_mul_left k2 (by omega)
    omega
  · rename_i h
    have h0 : 0 ≤ a.toInt := by rw [Int64.lt_iff_toInt_lt] at h; omega
    have hq : 0 ≤ a.toInt / b.toInt ∧ a.toInt / b.toInt ≤ a.toInt := ⟨Int.ediv_nonneg (by omega) (by omega), Int.ediv_le_self _ (by omega)⟩
    rw [Int64.toInt_div, Int.tdiv_eq_ediv_of_nonneg h0]; exact bm64 ⟨by omega, by omega⟩
/-- the end of a span -/
theorem span_end {t one other k : Int64} {A : Int} (ht : 0 ≤ t.toInt ∧ t.toInt ≤ A) (hA : A ≤ 2000000) (h1 : 1 ≤ one.toInt ∧ one.toInt ≤ 1000) (h2 : 1 ≤ other.toInt ∧ other.toInt ≤ 1000) (hk : (t.toInt - one.toInt) / other.toInt + 1 ≤ k.toInt) (hk2 : k.toInt ≤ t.toInt / other.toInt) :
    0 ≤ (k * other + one - 1).toInt ∧ (k * other + one - 1).toInt ≤ A + 1000 := by
  have z1 : (1 : Int64).toInt = 1 := rfl
  generalize hx : t.toInt = x at *
  generalize hy : other.toInt = y at *
  generalize hu : one.toInt = u at *
  have m1 := Int.mul_ediv_add_emod (x - u) y
  have m2 := Int.mul_ediv_add_emod x y
  have r2 := Int.emod_lt_of_pos (x - u) (by omega : 0 < y)
  have r3 := Int.emod_nonneg x (by omega : y ≠ 0)
  have l1 : y * ((x - u) / y + 1) ≤ y * k.toInt := Int.mul_le_mul_of_nonneg_left hk (by omega)
  have l2 : y * k.toInt ≤ y * (x / y) := Int.mul_le_mul_of_nonneg_left hk2 (by omega)
  rw [Int.mul_add] at l1
  have e0 : (k * other).toInt = y * k.toInt := by rw [Int64.toInt_mul, hy, Int.mul_comm]; exact bm64 ⟨by omega, by omega⟩
  have e1 : (k * other + one).toInt = y * k.toInt + u := by rw [Int64.toInt_add, e0, hu]; exact bm64 ⟨by omega, by omega⟩
  have e2 : (k * other + one - 1).toInt = y * k.toInt + u - 1 := by rw [Int64.toInt_sub, e1, z1]; exact bm64 ⟨by omega, by omega⟩
  rw [e2]; omega
theorem gap_end {t one : Int64} {A : Int} (ht : 0 ≤ t.toInt ∧ t.toInt ≤ A) (hA : A ≤ 2000000) (h1 : 1 ≤ one.toInt ∧ one.toInt ≤ 1000) : 0 ≤ (t + one - 1).toInt ∧ (t + one - 1).toInt ≤ A + 1000 := by
  have z1 : (1 : Int64).toInt = 1 := rfl
  have e1 : (t + one).toInt = t.toInt + one.toInt := by rw [Int64.toInt_add]; exact bm64 ⟨by omega, by omega⟩
  have e2 : (t + one - 1).toInt = t.toInt + one.toInt - 1 := by rw [Int64.toInt_sub, e1, z1]; exact bm64 ⟨by omega, by omega⟩
  rw [e2]; omega
theorem span_at {t one : Int64} {A : Int} (ht : 0 ≤ t.toInt ∧ t.toInt ≤ A) (hA : A ≤ 2000000) (h1 : 1 ≤ one.toInt ∧ one.toInt ≤ 1000) : (t - one).toInt = t.toInt - one.toInt := by
  rw [Int64.toInt_sub]; exact bm64 ⟨by omega, by omega⟩
theorem top_end {t other : Int64} {A : Int} (ht : 0 ≤ t.toInt ∧ t.toInt ≤ A) (hA : A ≤ 2000000) (h2 : 1 ≤ other.toInt ∧ other.toInt ≤ 1000) : 0 ≤ (t / other * other + other - 1).toInt ∧ (t / other * other + other - 1).toInt ≤ A + 1000 := by
  have z1 : (1 : Int64).toInt = 1 := rfl
  have hq : 0 ≤ t.toInt / other.toInt ∧ t.toInt / other.toInt ≤ t.toInt := ⟨Int.ediv_nonneg (by omega) (by omega), Int.ediv_le_self _ (by omega)⟩
  have d : (t / other).toInt = t.toInt / other.toInt := by rw [Int64.toInt_div, Int.tdiv_eq_ediv_of_nonneg ht.1]; exact bm64 ⟨by omega, by omega⟩
  have m2 := Int.mul_ediv_add_emod t.toInt other.toInt
  have r3 := Int.emod_nonneg t.toInt (by omega : other.toInt ≠ 0)
  have r4 : 0 ≤ other.toInt * (t.toInt / other.toInt) := Int.mul_nonneg (by omega) hq.1
  have e0 : (t / other * other).toInt = other.toInt * (t.toInt / other.toInt) := by rw [Int64.toInt_mul, d, Int.mul_comm]; exact bm64 ⟨by omega, by omega⟩
  have e1 : (t / other * other + other).toInt = other.toInt * (t.toInt / other.toInt) + other.toInt := by rw [Int64.toInt_add, e0]; exact bm64 ⟨by omega, by omega⟩
  have e2 : (t / other * other + other - 1).toInt = other.toInt * (t.toInt / other.toInt) + other.toInt - 1 := by rw [Int64.toInt_sub, e1, z1]; exact bm64 ⟨by omega, by omega⟩
  rw [e2]; omega
end PA
/-- what is sorted: rows of one operator -/
def SoI (ra : Nat → Nat) (σ : Sg) (n lo hi : Int) : Prop := ∀ i : Nat, (i : Int) < n → lo ≤ gI σ (ra 119) i ∧ gI σ (ra 119) i < hi
theorem SoI.fr {ra : Nat → Nat} {jx : Nat → Nat → Nat} {rm : Nat} {σ σ' : Sg} {n lo hi : Int} {K S : List Nat} (h : SoI ra σ n lo hi) (f : Fr ra jx rm K S σ σ') (hK : ([119].all fun k => !K.contains k) = true) : SoI ra σ' n lo hi := by
  have k1 : ∀ k ∈ [119], k ∉ K := fun k hk => by simpa using List.all_eq_true.mp hK k hk
  unfold SoI at *
  rw [(f.1 119 (k1 _ (by simp))).1]; exact h
theorem rank_le {v : Int} {one : Int64} (h0 : 0 ≤ v) (h1 : v ≤ 100) (ho : one.toInt ≤ 9) (h : ¬ Int64.ofInt v > one) : v ≤ 9 := by
  have e : (Int64.ofInt v).toInt = v := Int64.toInt_ofInt_of_le (by omega) (by omega)
  have h2 : ¬ one.toInt < (Int64.ofInt v).toInt := fun q => h (by show one < Int64.ofInt v; rw [Int64.lt_iff_toInt_lt]; exact q)
  omega
theorem src_t {x w : Int64} (h : ¬ x ≤ w) (hw : -1 ≤ w.toInt) : 0 ≤ x.toInt := by
  have h2 : ¬ x.toInt ≤ w.toInt := fun q => h (by rw [Int64.le_iff_toInt_le]; exact q)
  omega
theorem mx_lo {x y : Int64} (h : -1 ≤ x.toInt) : -1 ≤ (maxJ x y).toInt := by
  unfold maxJ
  split
  · exact h
  · rename_i q
    have h2 : ¬ y.toInt ≤ x.toInt := fun w => q (by show y ≤ x; rw [Int64.le_iff_toInt_le]; exact w)
    omega
theorem span_k {t one other : Int64} {A : Int} (ht : 0 ≤ t.toInt ∧ t.toInt ≤ A) (hA : A ≤ 2000000) (h1 : 1 ≤ one.toInt ∧ one.toInt ≤ 1000) (h2 : 1 ≤ other.toInt ∧ other.toInt ≤ 1000) : (dnJ (t - one) other + 1).toInt = (t.toInt - one.toInt) / other.toInt + 1 := by
  have e := span_at ht hA h1
  have d := dn_fl (a := t - one) (by omega) h2
  rw [e] at d
  have b1 := dn_le (a := t - one) (b := other) (by omega) h2.1
  rw [i64_succ (by omega), d]
theorem time_dn {t other : Int64} {A : Int} (ht : 0 ≤ t.toInt ∧ t.toInt ≤ A) (hA : A ≤ 2000000) (h2 : 1 ≤ other.toInt ∧ other.toInt ≤ 1000) : (dnJ t other).toInt = t.toInt / other.toInt ∧ (dnJ t other).toInt ≤ 2000000 := by
  have d := dn_fl (a := t) (by omega) h2
  have : t.toInt / other.toInt ≤ t.toInt := Int.ediv_le_self _ ht.1
  exact ⟨d, by omega⟩
theorem PtI.up {ra : Nat → Nat} {rm : Nat} {σ : Sg} {b A : Int} (h : PtI ra rm σ b A) : PtI ra rm σ (gI σ rm 117) (A + 1000) := by
  obtain ⟨h1, h2, h3, h4⟩ := h
  exact ⟨by omega, Int.le_refl _, h4, fun i hi => by have := h4 i hi; omega⟩

/-- where operator o of a job may be laid: N the steps there were -/
def Jk (k i : Nat) (o N : Int) : Prop := match k with
  | 2 => i = o.toNat | 4 => i = o.toNat | 5 => i = o.toNat | 6 => i = o.toNat | 8 => i = o.toNat | 9 => i = o.toNat | 12 => i = o.toNat
  | 13 => 8 * o ≤ i ∧ (i : Int) < 8 * o + 8 | 14 => 8 * o ≤ i ∧ (i : Int) < 8 * o + 8
  | 15 => N ≤ i | 16 => N ≤ i
  | _ => True
theorem Jk.le {k i : Nat} {o N N' : Int} (h : Jk k i o N') (hN : N ≤ N') : Jk k i o N := by
  unfold Jk at *
  split at h <;> first | exact h | omega | trivial
/-- the other job is as it was -/
def Od (ra : Nat → Nat) (jx : Nat → Nat → Nat) (da : Nat) (σ σ' : Sg) : Prop := ∀ a, (a = ra 15 ∨ a = ra 16) → a ≠ da → (∀ k, gI σ' (jx a k) = gI σ (jx a k) ∧ gJ σ' (jx a k) = gJ σ (jx a k)) ∧ gI σ' a = gI σ a ∧ gJ σ' a = gJ σ a
def Ow (jx : Nat → Nat → Nat) (da : Nat) (o : Int) (σ σ' : Sg) : Prop := (∀ k i, ¬ Jk k i o (gI σ da 17) → gI σ' (jx da k) i = gI σ (jx da k) i ∧ gJ σ' (jx da k) i = gJ σ (jx da k) i) ∧ gI σ da 17 ≤ gI σ' da 17
/-- what is left as it was where operator o of job da is laid -/
def FdO (ra : Nat → Nat) (jx : Nat → Nat → Nat) (rm da : Nat) (o : Int) (K S J : List Nat) (σ σ' : Sg) : Prop :=
  (∀ k, k ∉ K → gI σ' (ra k) = gI σ (ra k) ∧ gJ σ' (ra k) = gJ σ (ra k)) ∧ (∀ k, k ∉ S → gI σ' rm k = gI σ rm k ∧ gJ σ' rm k = gJ σ rm k) ∧ (∀ a k, k ∉ J → gI σ' (jx a k) = gI σ (jx a k) ∧ gJ σ' (jx a k) = gJ σ (jx a k)) ∧ (99 ∉ J → gP σ' = gP σ) ∧ Od ra jx da σ σ' ∧ Ow jx da o σ σ'
section FD
variable {ra : Nat → Nat} {jx : Nat → Nat → Nat} {rm da : Nat} {o : Int} {K S J : List Nat} {σ σ' σ'' : Sg}
theorem FdO.fj (h : FdO ra jx rm da o K S J σ σ') : Fj ra jx rm K S J σ σ' := ⟨h.1, h.2.1, h.2.2.1, h.2.2.2.1⟩
theorem FdO.mk (h : Fj ra jx rm K S J σ σ') (h1 : Od ra jx da σ σ') (h2 : Ow jx da o σ σ') : FdO ra jx rm da o K S J σ σ' := ⟨h.1, h.2.1, h.2.2.1, h.2.2.2, h1, h2⟩
theorem Od.rf : Od ra jx da σ σ := fun _ _ _ => ⟨fun _ => ⟨rfl, rfl⟩, rfl, rfl⟩
theorem Ow.rf : Ow jx da o σ σ := ⟨fun _ _ _ => ⟨rfl, rfl⟩, Int.le_refl _⟩
theorem Od.tr (h1 : Od ra jx da σ σ') (h2 : Od ra jx da σ' σ'') : Od ra jx da σ σ'' := fun a ha hn => by
  have p := h1 a ha hn; have q := h2 a ha hn
  exact ⟨fun k => ⟨(q.1 k).1.trans (p.1 k).1, (q.1 k).2.trans (p.1 k).2⟩, q.2.1.trans p.2.1, q.2.2.trans p.2.2⟩
theorem Ow.tr (h1 : Ow jx da o σ σ') (h2 : Ow jx da o σ' σ'') : Ow jx da o σ σ'' :=
  ⟨fun k i hk => by
    have p := h1.1 k i hk; have q := h2.1 k i (fun z => hk (z.le h1.2))
    exact ⟨q.1.trans p.1, q.2.trans p.2⟩, Int.le_trans h1.2 h2.2⟩
theorem FdO.rf : FdO ra jx rm da o K S J σ σ := FdO.mk Fj.rf Od.rf Ow.rf
theorem FdO.tr (h1 : FdO ra jx rm da o K S J σ σ') (h2 : FdO ra jx rm da o K S J σ' σ'') : FdO ra jx rm da o K S J σ σ'' := FdO.mk (h1.fj.tr h2.fj) (h1.2.2.2.2.1.tr h2.2.2.2.2.1) (h1.2.2.2.2.2.tr h2.2.2.2.2.2)
theorem FdO.mor {K' S' J' : List Nat} (h : FdO ra jx rm da o K S J σ σ') (hK : (K.all fun k => K'.contains k) = true) (hS : (S.all fun k => S'.contains k) = true) (hJ : (J.all fun k => J'.contains k) = true) : FdO ra jx rm da o K' S' J' σ σ' := FdO.mk (h.fj.mor hK hS hJ) h.2.2.2.2.1 h.2.2.2.2.2
/-- what leaves the jobs alone -/
theorem Fr.d (h : Fr ra jx rm K S σ σ') (hda : da = ra 15 ∨ da = ra 16) (hK : ([15, 16].all fun k => !K.contains k) = true) : FdO ra jx rm da o K S [] σ σ' := by
  have k1 : ∀ k ∈ [15, 16], k ∉ K := fun k hk => by simpa using List.all_eq_true.mp hK k hk
  have e : ∀ a, (a = ra 15 ∨ a = ra 16) → gI σ' a = gI σ a ∧ gJ σ' a = gJ σ a := fun a ha => by
    rcases ha with q | q <;> rw [q]
    · exact h.1 15 (k1 _ (by simp))
    · exact h.1 16 (k1 _ (by simp))
  exact FdO.mk h.j (fun a ha _ => ⟨fun k => h.2.2.1 a k, e a ha⟩) ⟨fun k i _ => ⟨by rw [(h.2.2.1 da k).1], by rw [(h.2.2.1 da k).2]⟩, by rw [(e da hda).1]; exact Int.le_refl _⟩
theorem FdO.aI (g : Geo ra jx rm) (h : FdO ra jx rm da o K S J σ σ') {k i : Nat} {x : Int} (hda : da = ra 15 ∨ da = ra 16) (hk : k ∈ K) (hn : k ≠ 15 ∧ k ≠ 16) : FdO ra jx rm da o K S J σ (pI σ' (ra k) i x) :=
  h.tr ((Fr.d (Fr.aI (K := [k]) (S := []) g Fr.rf (by simp)) hda (by simp; omega)).mor (by simpa using hk) rfl rfl)
theorem FdO.aJ (g : Geo ra jx rm) (h : FdO ra jx rm da o K S J σ σ') {k i : Nat} {x : Int64} (hda : da = ra 15 ∨ da = ra 16) (hk : k ∈ K) (hn : k ≠ 15 ∧ k ≠ 16) : FdO ra jx rm da o K S J σ (pJ σ' (ra k) i x) :=
  h.tr ((Fr.d (Fr.aJ (K := [k]) (S := []) g Fr.rf (by simp)) hda (by simp; omega)).mor (by simpa using hk) rfl rfl)
theorem FdO.sI (g : Geo ra jx rm) (h : FdO ra jx rm da o K S J σ σ') {k : Nat} {x : Int} (hda : da = ra 15 ∨ da = ra 16) (hk : k ∈ S) : FdO ra jx rm da o K S J σ (pI σ' rm k x) :=
  h.tr ((Fr.d (Fr.sI (K := []) (S := [k]) g Fr.rf (by simp)) hda rfl).mor rfl (by simpa using hk) rfl)
theorem FdO.sJ (g : Geo ra jx rm) (h : FdO ra jx rm da o K S J σ σ') {k : Nat} {x : Int64} (hda : da = ra 15 ∨ da = ra 16) (hk : k ∈ S) : FdO ra jx rm da o K S J σ (pJ σ' rm k x) :=
  h.tr ((Fr.d (Fr.sJ (K := []) (S := [k]) g Fr.rf (by simp)) hda rfl).mor rfl (by simpa using hk) rfl)
theorem FdO.jI (g : Geo ra jx rm) (h : FdO ra jx rm da o K S J σ σ') {k i : Nat} {x : Int} (hda : da = ra 15 ∨ da = ra 16) (hk : k ∈ J) (hi : Jk k i o (gI σ da 17)) : FdO ra jx rm da o K S J σ (pI σ' (jx da k) i x) := by
  refine FdO.mk (h.fj.jI g hk) (h.2.2.2.2.1.tr ?_) ?_
  · obtain ⟨g1, g2, g3, g4, g5, g6, g7, g8⟩ := g
    intro a ha hn
    refine ⟨fun j => ⟨up2_off (fun q => hn ((g8 _ _ _ _).mp q).1), rfl⟩, ?_, rfl⟩
    rcases ha with q | q <;> rw [q] <;> exact up2_off (g5 _ _ _)
  · obtain ⟨g1, g2, g3, g4, g5, g6, g7, g8⟩ := g
    have w := h.2.2.2.2.2
    refine ⟨fun j l hj => ?_, ?_⟩
    · have p := w.1 j l hj
      refine ⟨?_, p.2⟩
      rw [rII, if_neg (fun q => hj (by rw [((g8 _ _ _ _).mp q.1).2, q.2]; exact hi))]; exact p.1
    · rcases hda with q | q <;> rw [q] at w ⊢ <;> (rw [rII, if_neg (fun z => g5 _ _ _ z.1)]; exact w.2)
theorem FdO.jJ (g : Geo ra jx rm) (h : FdO ra jx rm da o K S J σ σ') {k i : Nat} {x : Int64} (hda : da = ra 15 ∨ da = ra 16) (hk : k ∈ J) (hi : Jk k i o (gI σ da 17)) : FdO ra jx rm da o K S J σ (pJ σ' (jx da k) i x) := by
  refine FdO.mk (h.fj.jJ g hk) (h.2.2.2.2.1.tr ?_) ?_
  · obtain ⟨g1, g2, g3, g4, g5, g6, g7, g8⟩ := g
    intro a ha hn
    refine ⟨fun j => ⟨rfl, up2_off (fun q => hn ((g8 _ _ _ _).mp q).1)⟩, rfl, ?_⟩
    rcases ha with q | q <;> rw [q] <;> exact up2_off (g5 _ _ _)
  · obtain ⟨g1, g2, g3, g4, g5, g6, g7, g8⟩ := g
    have w := h.2.2.2.2.2
    refine ⟨fun j l hj => ?_, w.2⟩
    have p := w.1 j l hj
    refine ⟨p.1, ?_⟩
    rw [rJJ, if_neg (fun q => hj (by rw [((g8 _ _ _ _).mp q.1).2, q.2]; exact hi))]; exact p.2
theorem FdO.oI (g : Geo ra jx rm) (h : FdO ra jx rm da o K S J σ σ') {k : Nat} {x : Int} (hda : da = ra 15 ∨ da = ra 16) (hk : (K.contains 15 && K.contains 16) = true) (hx : k = 17 → gI σ da 17 ≤ x) : FdO ra jx rm da o K S J σ (pI σ' da k x) := by
  refine FdO.mk (Fj.oI g h.fj hda hk) (h.2.2.2.2.1.tr ?_) ?_
  · obtain ⟨g1, g2, g3, g4, g5, g6, g7, g8⟩ := g
    intro a ha hn
    refine ⟨fun j => ⟨?_, rfl⟩, up2_off (fun q => hn q), rfl⟩
    rcases hda with q | q <;> rw [q] <;> exact up2_off (g4 _ _ _)
  · obtain ⟨g1, g2, g3, g4, g5, g6, g7, g8⟩ := g
    have w := h.2.2.2.2.2
    refine ⟨fun j l hj => ?_, ?_⟩
    · have p := w.1 j l hj
      refine ⟨?_, p.2⟩
      have e : ∀ b, gI (pI σ' da k x) (jx b j) = gI σ' (jx b j) := fun b => by
        rcases hda with q | q <;> rw [q] <;> exact up2_off (g4 _ _ _)
      rw [e]; exact p.1
    · rw [rII]; split
      · rename_i q; exact hx q.2.symm
      · exact w.2
theorem FdO.ob {ja : Nat} (f : FdO ra jx rm da o K S J σ σ') (hja : ja = ra 15 ∨ ja = ra 16) (hK : ([15, 16].all fun k => !K.contains k) = true) : gI σ' ja = gI σ ja := f.fj.ob hja hK
end FD

/-- how many bytes of the text are read -/
def cn (rm : Nat) (σ : Sg) : Int := if gI σ rm 8 = 0 then gI σ rm 7 else gI σ rm 10
/-- the reader's place -/
def PsI (rm : Nat) (σ : Sg) : Prop := gI σ rm 7 ≤ gI σ rm 6 ∧ (gI σ rm 8 ≠ 0 → gI σ rm 10 ≤ gI σ rm 7 ∧ (gI σ rm 9 ≠ 3 → gI σ rm 10 < gI σ rm 7))
/-- one step of a text: N steps there are -/
def SOK (jx : Nat → Nat → Nat) (da : Nat) (σ : Sg) (dp : Int → Int) (N pc : Int) : Prop :=
  dp pc ≤ 1500 ∧ (gI σ (jx da 15) pc.toNat = 17 → dp pc = 1) ∧ (gI σ (jx da 15) pc.toNat ≤ 2 → dp (pc + 1) = dp pc + 1) ∧ (gI σ (jx da 15) pc.toNat = 1 → 0 ≤ (gJ σ (jx da 16) pc.toNat).toInt32.toInt ∧ (gJ σ (jx da 16) pc.toNat).toInt32.toInt < 8) ∧ (gI σ (jx da 15) pc.toNat = 11 ∨ gI σ (jx da 15) pc.toNat = 12 ∨ gI σ (jx da 15) pc.toNat = 16 → 1 ≤ dp pc ∧ dp (pc + 1) = dp pc) ∧ (gI σ (jx da 15) pc.toNat = 13 ∨ gI σ (jx da 15) pc.toNat = 14 → 1 ≤ dp pc ∧ dp (pc + 1) = dp pc - 1 ∧ pc < (gJ σ (jx da 16) pc.toNat).toInt32.toInt ∧ (gJ σ (jx da 16) pc.toNat).toInt32.toInt ≤ N ∧ dp (gJ σ (jx da 16) pc.toNat).toInt32.toInt = dp pc - 1) ∧ (gI σ (jx da 15) pc.toNat = 15 → pc < (gJ σ (jx da 16) pc.toNat).toInt32.toInt ∧ (gJ σ (jx da 16) pc.toNat).toInt32.toInt ≤ N ∧ dp (gJ σ (jx da 16) pc.toNat).toInt32.toInt = dp pc) ∧ (3 ≤ gI σ (jx da 15) pc.toNat ∧ gI σ (jx da 15) pc.toNat ≤ 10 → 2 ≤ dp pc ∧ dp (pc + 1) = dp pc - 1)
/-- all steps so far but those of ex -/
def PgI (jx : Nat → Nat → Nat) (da : Nat) (σ : Sg) (dp : Int → Int) (ex : Int → Prop) : Prop := ∀ pc, 0 ≤ pc → pc < gI σ da 17 → 0 ≤ dp pc → ¬ ex pc → SOK jx da σ dp (gI σ da 17) pc
section PZ
variable {ra : Nat → Nat} {jx : Nat → Nat → Nat} {rm da : Nat} {σ σ' : Sg} {dp : Int → Int} {ex : Int → Prop} {op d d' : Int} {arg : Int64}
theorem PgI.eq (h : PgI jx da σ dp ex) (e17 : gI σ' da 17 = gI σ da 17) (e15 : gI σ' (jx da 15) = gI σ (jx da 15)) (e16 : gJ σ' (jx da 16) = gJ σ (jx da 16)) : PgI jx da σ' dp ex := by
  unfold PgI SOK at *
  rw [e17, e15, e16]; exact h
theorem PgI.pend (h : PgI jx da σ dp ex) (hN : 0 ≤ gI σ da 17) (e17 : gI σ' da 17 = gI σ da 17 + 1) (e15 : ∀ i : Nat, gI σ' (jx da 15) i = if i = (gI σ da 17).toNat then op else gI σ (jx da 15) i) (e16 : ∀ i : Nat, gJ σ' (jx da 16) i = if i = (gI σ da 17).toNat then arg else gJ σ (jx da 16) i) : PgI jx da σ' (up dp (gI σ da 17 + 1) d') (fun pc => ex pc ∨ pc = gI σ da 17) := by
  intro pc h0 h1 h2 h3
  have hne : pc ≠ gI σ da 17 := fun q => h3 (Or.inr q)
  have hlt : pc < gI σ da 17 := by omega
  have u : ∀ q, q ≤ gI σ da 17 → up dp (gI σ da 17 + 1) d' q = dp q := fun q hq => by simp only [up]; rw [if_neg (by omega)]
  rw [u pc (by omega)] at h2
  have w := h pc h0 hlt h2 (fun q => h3 (Or.inl q))
  unfold SOK at w ⊢
  rw [e15, e16, if_neg (by omega), if_neg (by omega), u pc (by omega), u (pc + 1) (by omega), e17]
  obtain ⟨w1, w2, w3, w4, w5, w6, w7, w8⟩ := w
  refine ⟨w1, w2, w3, w4, w5, fun q => ?_, fun q => ?_, w8⟩
  · have z := w6 q; rw [u _ z.2.2.2.1]; exact ⟨z.1, z.2.1, z.2.2.1, by omega, z.2.2.2.2⟩
  · have z := w7 q; rw [u _ z.2.1]; exact ⟨z.1, by omega, z.2.2⟩
/-- a step that leads on -/
theorem PgI.put (h : PgI jx da σ dp ex) (hN : 0 ≤ gI σ da 17) (e17 : gI σ' da 17 = gI σ da 17 + 1) (e15 : ∀ i : Nat, gI σ' (jx da 15) i = if i = (gI σ da 17).toNat then op else gI σ (jx da 15) i) (e16 : ∀ i : Nat, gJ σ' (jx da 16) i = if i = (gI σ da 17).toNat then arg else gJ σ (jx da 16) i)
    (hd : dp (gI σ da 17) = d) (hb : d ≤ 1500) (ho : 0 ≤ op) (hs : (op ≤ 2 ∧ d' = d + 1 ∧ (op = 1 → 0 ≤ arg.toInt32.toInt ∧ arg.toInt32.toInt < 8)) ∨ ((op = 11 ∨ op = 12 ∨ op = 16) ∧ 1 ≤ d ∧ d' = d) ∨ (3 ≤ op ∧ op ≤ 10 ∧ 2 ≤ d ∧ d' = d - 1) ∨ (op = 17 ∧ d = 1)) : PgI jx da σ' (up dp (gI σ da 17 + 1) d') ex := by
  intro pc h0 h1 h2 h3
  by_cases hne : pc = gI σ da 17
  · have u0 : up dp (gI σ da 17 + 1) d' pc = d := by simp only [up]; rw [if_neg (by omega), hne, hd]
    have u1 : up dp (gI σ da 17 + 1) d' (pc + 1) = d' := by simp only [up]; rw [if_pos (by omega)]
    unfold SOK
    rw [e15, e16, if_pos (by omega), if_pos (by omega), u0, u1]
    refine ⟨hb, ?_, ?_, ?_, ?_, ?_, ?_, ?_⟩ <;> intro q <;> first | omega | (rcases hs with s | s | s | s <;> first | omega | exact s.2.2 q)
  · exact (PgI.pend (d' := d') h hN e17 e15 e16) pc h0 h1 h2 (fun q => by rcases q with q | q; exact h3 q; exact hne q)
/-- a leap gets its aim -/
theorem PgI.fix {no t : Int} (h : PgI jx da σ dp (fun pc => ex pc ∨ pc = no)) (h0 : 0 ≤ no) (ht : no < t) (htN : t ≤ gI σ da 17) (hN : gI σ da 17 ≤ 6000) (e17 : gI σ' da 17 = gI σ da 17) (e15 : gI σ' (jx da 15) = gI σ (jx da 15)) (e16 : ∀ i : Nat, gJ σ' (jx da 16) i = if i = no.toNat then Int64.ofInt t else gJ σ (jx da 16) i)
    (hd : 0 ≤ dp no ∧ dp no ≤ 1500) (hs : ((gI σ (jx da 15) no.toNat = 13 ∨ gI σ (jx da 15) no.toNat = 14) ∧ 1 ≤ dp no ∧ dp (no + 1) = dp no - 1 ∧ dp t = dp no - 1) ∨ (gI σ (jx da 15) no.toNat = 15 ∧ dp t = dp no)) : PgI jx da σ' dp ex := by
  intro pc p0 p1 p2 p3
  rw [e17] at p1
  have e : (Int64.ofInt t).toInt32.toInt = t := by
    rw [Int64.toInt_toInt32, Int64.toInt_ofInt_of_le (by omega) (by omega), Int.bmod_def]; omega
  by_cases q : pc = no
  · subst q
    unfold SOK
    rw [e15, e16, if_pos rfl, e, e17]
    refine ⟨by omega, ?_, ?_, ?_, ?_, ?_, ?_, ?_⟩ <;> intro z <;> (rcases hs with s | s <;> first | omega | exact ⟨by omega, by omega, by omega, by omega, by omega⟩ | exact ⟨by omega, by omega, by omega⟩)
  · have w := h pc p0 p1 p2 (fun z => by rcases z with z | z; exact p3 z; exact q z)
    unfold SOK at w ⊢
    rw [e15, e16, if_neg (by omega), e17]; exact w
theorem PgI.less {ex' : Int → Prop} (h : PgI jx da σ dp ex') (hx : ∀ pc, pc < gI σ da 17 → ex' pc → ex pc) : PgI jx da σ dp ex := fun pc a b c d => h pc a b c (fun q => d (hx pc b q))
/-- nothing yet -/
theorem PgI.nil {N : Int} (hN : gI σ da 17 = N) : PgI jx da σ (fun pc => if pc = N then 0 else -1) ex := by
  intro pc a b c _
  dsimp only at c
  rw [if_neg (by omega)] at c; omega
/-- a text's end -/
theorem PgI.done {s : Int} (h : PgI jx da σ dp (fun _ => False)) (hl : ∀ pc, pc < s → dp pc < 0) (h0 : dp s = 0) (hs : 0 ≤ s) (hN : gI σ da 17 ≤ 6000) (hsN : s < gI σ da 17) (hdn : gI σ (jx da 15) (gI σ da 17 - 1).toNat = 17) (hle : ∀ pc, s ≤ pc → pc < gI σ da 17 → 0 ≤ dp pc → gI σ (jx da 15) pc.toNat = 13 ∨ gI σ (jx da 15) pc.toNat = 14 ∨ gI σ (jx da 15) pc.toNat = 15 → (gJ σ (jx da 16) pc.toNat).toInt32.toInt < gI σ da 17) : PO jx da σ s := by
  refine ⟨dp, fun pc a b c => ?_, h0, hs, hsN, hN⟩
  have w := h pc a b c (fun q => q)
  have hps : s ≤ pc := by
    by_cases q : s ≤ pc
    · exact q
    · have := hl pc (by omega); omega
  obtain ⟨w1, w2, w3, w4, w5, w6, w7, w8⟩ := w
  have hl2 := hle pc hps b c
  refine ⟨w1, w2, fun p q => ?_, w3, w4, w5, fun q => ?_, fun q => ?_, w8⟩
  · by_cases z : pc + 1 < gI σ da 17
    · exact z
    · exact absurd (show gI σ (jx da 15) pc.toNat = 17 by rw [show pc = gI σ da 17 - 1 by omega]; exact hdn) p
  · have z := w6 q; exact ⟨z.1, z.2.1, z.2.2.1, hl2 (by omega), z.2.2.2.2⟩
  · have z := w7 q; exact ⟨z.1, hl2 (by omega), z.2.2⟩
/-- the whole of a VALUE -/
theorem PgI.value {s : Int} (h : PgI jx da σ dp (fun _ => False)) (hN : 0 ≤ gI σ da 17) (hN6 : gI σ da 17 < 6000) (e17 : gI σ' da 17 = gI σ da 17 + 1) (e15 : ∀ i : Nat, gI σ' (jx da 15) i = if i = (gI σ da 17).toNat then 17 else gI σ (jx da 15) i) (e16 : ∀ i : Nat, gJ σ' (jx da 16) i = if i = (gI σ da 17).toNat then arg else gJ σ (jx da 16) i)
    (hd : dp (gI σ da 17) = 1) (hl : ∀ pc, pc < s → dp pc < 0) (h0 : dp s = 0) (hs : 0 ≤ s) (hsN : s < gI σ da 17) : PO jx da σ' s := by
  have h2 := PgI.put (d' := 0) h hN e17 e15 e16 hd (by omega) (by omega) (Or.inr (Or.inr (Or.inr ⟨rfl, rfl⟩)))
  have u : ∀ q, q ≤ gI σ da 17 → up dp (gI σ da 17 + 1) 0 q = dp q := fun q hq => by simp only [up]; rw [if_neg (by omega)]
  refine PgI.done h2 (fun pc hp => by rw [u _ (by omega)]; exact hl pc hp) (by rw [u _ (by omega)]; exact h0) hs (by omega) (by omega) ?_ ?_
  · rw [e15, if_pos (by omega)]
  · intro pc p0 p1 p2 p3
    by_cases q : pc = gI σ da 17
    · rw [e15, if_pos (by omega)] at p3; omega
    · rw [u _ (by omega)] at p2
      rw [e15, if_neg (by omega)] at p3
      rw [e16, if_neg (by omega), e17]
      have w := h pc (by omega) (by omega) p2 (fun z => z)
      obtain ⟨w1, w2, w3, w4, w5, w6, w7, w8⟩ := w
      rcases p3 with z | z | z
      · have := w6 (Or.inl z); omega
      · have := w6 (Or.inr z); omega
      · have := w7 z; omega
/-- taking a token -/
theorem cn_take (h : PsI rm σ) (h8 : gI σ rm 8 = 1) (h9 : gI σ rm 9 ≠ 3) (e8 : gI σ' rm 8 = 0) (e7 : gI σ' rm 7 = gI σ rm 7) (e6 : gI σ' rm 6 = gI σ rm 6) : PsI rm σ' ∧ cn rm σ + 1 ≤ cn rm σ' := by
  have w := h.2 (by omega)
  have w2 := w.2 h9
  unfold PsI cn
  rw [e8, e7, e6, h8]
  refine ⟨⟨h.1, fun q => absurd rfl q⟩, ?_⟩
  rw [if_neg (by decide), if_pos rfl]; omega
theorem PsI.fr {K S : List Nat} (h : PsI rm σ) (f : Fr ra jx rm K S σ σ') (hS : ([6, 7, 8, 9, 10].all fun k => !S.contains k) = true) : PsI rm σ' ∧ cn rm σ' = cn rm σ := by
  have k2 : ∀ k ∈ [6, 7, 8, 9, 10], k ∉ S := fun k hk => by simpa using List.all_eq_true.mp hS k hk
  unfold PsI cn at *
  rw [(f.2.1 6 (k2 _ (by simp))).1, (f.2.1 7 (k2 _ (by simp))).1, (f.2.1 8 (k2 _ (by simp))).1, (f.2.1 9 (k2 _ (by simp))).1, (f.2.1 10 (k2 _ (by simp))).1]
  exact ⟨h, rfl⟩
theorem PsI.frj {K S J : List Nat} (h : PsI rm σ) (f : Fj ra jx rm K S J σ σ') (hS : ([6, 7, 8, 9, 10].all fun k => !S.contains k) = true) : PsI rm σ' ∧ cn rm σ' = cn rm σ := by
  have k2 : ∀ k ∈ [6, 7, 8, 9, 10], k ∉ S := fun k hk => by simpa using List.all_eq_true.mp hS k hk
  unfold PsI cn at *
  rw [(f.2.1 6 (k2 _ (by simp))).1, (f.2.1 7 (k2 _ (by simp))).1, (f.2.1 8 (k2 _ (by simp))).1, (f.2.1 9 (k2 _ (by simp))).1, (f.2.1 10 (k2 _ (by simp))).1]
  exact ⟨h, rfl⟩
theorem PsI.eq (h : PsI rm σ) (e : ∀ k, k = 6 ∨ k = 7 ∨ k = 8 ∨ k = 9 ∨ k = 10 → gI σ' rm k = gI σ rm k) : PsI rm σ' ∧ cn rm σ' = cn rm σ := by
  unfold PsI cn at *
  rw [e 6 (by simp), e 7 (by simp), e 8 (by simp), e 9 (by simp), e 10 (by simp)]
  exact ⟨h, rfl⟩
/-- a token that is seen lies before the end -/
theorem PsI.tok (h : PsI rm σ) (h8 : gI σ rm 8 = 1) (h9 : gI σ rm 9 ≠ 3) : cn rm σ + 1 ≤ gI σ rm 6 := by
  have w := h.2 (by omega)
  have w2 := w.2 h9
  unfold cn; rw [h8, if_neg (by decide)]
  have := h.1; omega
end PZ
def bt (x : Int) : Int := (i32 x &&& i32 255).toInt
theorem cn_sI {rm : Nat} {σ : Sg} {k : Nat} {x : Int} (hk : k ≠ 6 ∧ k ≠ 7 ∧ k ≠ 8 ∧ k ≠ 9 ∧ k ≠ 10) (h : PsI rm σ) : PsI rm (pI σ rm k x) ∧ cn rm (pI σ rm k x) = cn rm σ :=
  PsI.eq h (fun j hj => by rw [rII, if_neg (fun q => by omega)])


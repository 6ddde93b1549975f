/-- a run of job ja -/
def RunI (ra : Nat → Nat) (jx : Nat → Nat → Nat) (rm ja : Nat) (σ : Sg) : Prop := gP σ rm 17 = some ja ∧ ((ThE ra rm σ ∧ RecE ra jx rm ja σ ∧ HeE ra rm σ ∧ MkI ra jx ja σ) ∧ LcI ra rm σ ∧ (∀ i : Nat, i < 1100 → gI σ (ra 54) i ≤ gI σ rm 34)) ∧ 1 ≤ gI σ rm 33 ∧ JobOK jx ja σ ∧ 1 ≤ gI σ rm 36 ∧ LyI ra jx rm ja σ
/-- the reference between calls -/
def RI (ra : Nat → Nat) (jx : Nat → Nat → Nat) (rm : Nat) (σ : Sg) : Prop :=
  HeE ra rm σ ∧ (∀ ja, gP σ rm 17 = some ja → (ja = ra 15 ∨ ja = ra 16) ∧ JobOK jx ja σ) ∧ (gI σ rm 30 ≠ 0 → ∃ ja, (ja = ra 15 ∨ ja = ra 16) ∧ RunI ra jx rm ja σ) ∧ (gI σ rm 32 ≠ 0 → gI σ rm 30 ≠ 0) ∧ (gI σ rm 30 = 0 → gI σ rm 36 = 0)
section PB
variable {ra : Nat → Nat} {jx : Nat → Nat → Nat} {rm : Nat} {σ σ' : Sg} {K S : List Nat} {ja : Nat}
theorem RunI.fr (h : RunI ra jx rm ja σ) (hja : ja = ra 15 ∨ ja = ra 16) (f : Fr ra jx rm K S σ σ') (hK : ([15, 16, 38, 45, 46, 47, 52, 53, 54, 55, 59, 65, 68, 69, 72, 75, 76, 77, 78, 86, 87, 88, 89, 98, 99, 100, 104].all fun k => !K.contains k) = true) (hS : ([33, 34, 36, 50, 66, 67, 79, 80, 90, 91].all fun k => !S.contains k) = true) : RunI ra jx rm ja σ' := by
  have k1 : ∀ k ∈ [15, 16, 38, 45, 46, 47, 52, 53, 54, 55, 59, 65, 68, 69, 72, 75, 76, 77, 78, 86, 87, 88, 89, 98, 99, 100, 104], k ∉ K := fun k hk => by simpa using List.all_eq_true.mp hK k hk
  have k2 : ∀ k ∈ [33, 34, 36, 50, 66, 67, 79, 80, 90, 91], k ∉ S := fun k hk => by simpa using List.all_eq_true.mp hS k hk
  have a : ∀ L : List Nat, (∀ x ∈ L, x ∈ [15, 16, 38, 45, 46, 47, 52, 53, 54, 55, 59, 65, 68, 69, 72, 75, 76, 77, 78, 86, 87, 88, 89, 98, 99, 100, 104]) → (L.all fun k => !K.contains k) = true := fun L hL => List.all_eq_true.mpr fun k hk => by simpa using k1 k (hL k hk)
  have b : ∀ L : List Nat, (∀ x ∈ L, x ∈ [33, 34, 36, 50, 66, 67, 79, 80, 90, 91]) → (L.all fun k => !S.contains k) = true := fun L hL => List.all_eq_true.mpr fun k hk => by simpa using k2 k (hL k hk)
  obtain ⟨h1, ⟨⟨h2, h3, h4, h5⟩, h6, h7⟩, h8, h9, h10, h11⟩ := h
  refine ⟨by rw [f.2.2.2]; exact h1, ⟨⟨h2.fr f (a _ (by decide)) (b _ (by decide)), h3.fr f (a _ (by decide)) (b _ (by decide)), h4.fr f (a _ (by decide)) (b _ (by decide)), h5.fr f (a _ (by decide))⟩, h6.fr f (a _ (by decide)) (b _ (by decide)), ?_⟩, ?_, h9.fr hja f (a _ (by decide)), ?_, h11.fr hja f (a _ (by decide)) (b _ (by decide))⟩
  · rw [(f.1 54 (k1 _ (by simp))).1, (f.2.1 34 (k2 _ (by simp))).1]; exact h7
  · rw [(f.2.1 33 (k2 _ (by simp))).1]; exact h8
  · rw [(f.2.1 36 (k2 _ (by simp))).1]; exact h10
theorem RI.fr (h : RI ra jx rm σ) (f : Fr ra jx rm K S σ σ') (hK : ([15, 16, 38, 45, 46, 47, 52, 53, 54, 55, 59, 65, 68, 69, 72, 75, 76, 77, 78, 86, 87, 88, 89, 98, 99, 100, 104].all fun k => !K.contains k) = true) (hS : ([30, 32, 33, 34, 36, 50, 66, 67, 79, 80, 90, 91].all fun k => !S.contains k) = true) : RI ra jx rm σ' := by
  have k1 : ∀ k ∈ [15, 16, 38, 45, 46, 47, 52, 53, 54, 55, 59, 65, 68, 69, 72, 75, 76, 77, 78, 86, 87, 88, 89, 98, 99, 100, 104], k ∉ K := fun k hk => by simpa using List.all_eq_true.mp hK k hk
  have k2 : ∀ k ∈ [30, 32, 33, 34, 36, 50, 66, 67, 79, 80, 90, 91], k ∉ S := fun k hk => by simpa using List.all_eq_true.mp hS k hk
  have a : ∀ L : List Nat, (∀ x ∈ L, x ∈ [15, 16, 38, 45, 46, 47, 52, 53, 54, 55, 59, 65, 68, 69, 72, 75, 76, 77, 78, 86, 87, 88, 89, 98, 99, 100, 104]) → (L.all fun k => !K.contains k) = true := fun L hL => List.all_eq_true.mpr fun k hk => by simpa using k1 k (hL k hk)
  have b : ∀ L : List Nat, (∀ x ∈ L, x ∈ [30, 32, 33, 34, 36, 50, 66, 67, 79, 80, 90, 91]) → (L.all fun k => !S.contains k) = true := fun L hL => List.all_eq_true.mpr fun k hk => by simpa using k2 k (hL k hk)
  obtain ⟨h1, h2, h3, h4, h5⟩ := h
  refine ⟨h1.fr f (a _ (by decide)) (b _ (by decide)), fun ja hj => ?_, fun q => ?_, fun q => ?_, fun q => ?_⟩
  · rw [f.2.2.2] at hj; have w := h2 ja hj; exact ⟨w.1, w.2.fr w.1 f (a _ (by decide))⟩
  · rw [(f.2.1 30 (k2 _ (by simp))).1] at q; obtain ⟨ja, x, y⟩ := h3 q; exact ⟨ja, x, y.fr x f (a _ (by decide)) (b _ (by decide))⟩
  · rw [(f.2.1 32 (k2 _ (by simp))).1] at q; rw [(f.2.1 30 (k2 _ (by simp))).1]; exact h4 q
  · rw [(f.2.1 30 (k2 _ (by simp))).1] at q; rw [(f.2.1 36 (k2 _ (by simp))).1]; exact h5 q
/-- no job, or a good one -/
theorem RI.jn (h : RI ra jx rm σ) : ∃ ja, (gP σ rm 17 = none ∨ gP σ rm 17 = some ja) ∧ (ja = ra 15 ∨ ja = ra 16) ∧ (gP σ rm 17 = some ja → JobOK jx ja σ) := by
  by_cases q : gP σ rm 17 = none
  · exact ⟨ra 15, Or.inl q, Or.inl rfl, fun z => (h.2.1 _ z).2⟩
  · obtain ⟨ja, hj⟩ := Option.ne_none_iff_exists'.mp q
    exact ⟨ja, Or.inr hj, (h.2.1 ja hj).1, fun z => (h.2.1 _ z).2⟩
theorem RI.run (h : RI ra jx rm σ) : ∃ ja, (ja = ra 15 ∨ ja = ra 16) ∧ (gI σ rm 30 ≠ 0 → RunI ra jx rm ja σ) := by
  by_cases q : gI σ rm 30 = 0
  · exact ⟨ra 15, Or.inl rfl, fun z => absurd q z⟩
  · obtain ⟨ja, x, y⟩ := h.2.2.1 q; exact ⟨ja, x, fun _ => y⟩
theorem RI.ofRun (h : RunI ra jx rm ja σ) (hja : ja = ra 15 ∨ ja = ra 16) (h30 : gI σ rm 30 ≠ 0) : RI ra jx rm σ :=
  ⟨h.2.1.1.2.2.1, fun a ha => by rw [h.1] at ha; cases ha; exact ⟨hja, h.2.2.2.1⟩, fun _ => ⟨ja, hja, h⟩, fun _ => h30, fun q => absurd q h30⟩
theorem RI.c (g : Geo ra jx rm) (h : RI ra jx rm σ) (c : Int) : RI ra jx rm (pI σ rm 0 c) := h.fr (K := []) (S := [0]) (Fr.sI g Fr.rf (by decide)) (by decide) (by decide)
end PB
theorem pub_fault {ra : Nat → Nat} {jx : Nat → Nat → Nat} {rm : Nat} (g : Geo ra jx rm) {σ : Sg} (rσ : Rg ra jx rm σ) (h : RI ra jx rm σ) {X : Sg → String → Prop} : wp_X16_fault ra jx rm σ (fun σ' (_ : Int) => Rg ra jx rm σ' ∧ RI ra jx rm σ' ∧ gI σ' rm 3 = gI σ rm 3) X := by
  exact s_X16_fault g rσ (fun σ' r r' f _ => ⟨r', h.fr f (by decide) (by decide), (f.2.1 3 (by decide)).1⟩)
theorem pub_operator_ {ra : Nat → Nat} {jx : Nat → Nat → Nat} {rm : Nat} (g : Geo ra jx rm) {σ : Sg} {v1 : Int} {v2 : Int} (rσ : Rg ra jx rm σ) (h : RI ra jx rm σ) (b1 : -2147483648 ≤ v1 ∧ v1 ≤ 2147483647) (b2 : -2147483648 ≤ v2 ∧ v2 ≤ 2147483647) {X : Sg → String → Prop} : wp_X16_operator_ ra jx rm v1 v2 σ (fun σ' (_ : Int64) => Rg ra jx rm σ' ∧ RI ra jx rm σ' ∧ gI σ' rm 3 = gI σ rm 3) X := by
  obtain ⟨ja, hj, hja, hjo⟩ := h.jn
  exact s2_X16_operator_ (ja := ja) g rσ hj hja hjo b1 b2 (fun σ' r r' f _ => ⟨r', h.fr f (by decide) (by decide), (f.2.1 3 (by decide)).1⟩)
theorem pub_visible {ra : Nat → Nat} {jx : Nat → Nat → Nat} {rm : Nat} (g : Geo ra jx rm) {σ : Sg} {v1 : Int} (rσ : Rg ra jx rm σ) (h : RI ra jx rm σ) (b1 : -2147483648 ≤ v1 ∧ v1 ≤ 2147483647) {X : Sg → String → Prop} : wp_X16_visible ra jx rm v1 σ (fun σ' (_ : Int) => Rg ra jx rm σ' ∧ RI ra jx rm σ' ∧ gI σ' rm 3 = gI σ rm 3) X := by
  obtain ⟨ja, hj, hja, hjo⟩ := h.jn
  exact s2_X16_visible (ja := ja) g rσ hj hja hjo b1 (fun σ' r r' f _ => ⟨r', h.fr f (by decide) (by decide), (f.2.1 3 (by decide)).1⟩)
theorem pub_told {ra : Nat → Nat} {jx : Nat → Nat → Nat} {rm : Nat} (g : Geo ra jx rm) {σ : Sg} {v1 : Int} (rσ : Rg ra jx rm σ) (h : RI ra jx rm σ) (b1 : -2147483648 ≤ v1 ∧ v1 ≤ 2147483647) {X : Sg → String → Prop} : wp_X16_told ra jx rm v1 σ (fun σ' (_ : Int) => Rg ra jx rm σ' ∧ RI ra jx rm σ' ∧ gI σ' rm 3 = gI σ rm 3) X := by
  obtain ⟨ja, hj, hja, hjo⟩ := h.jn
  exact s2_X16_told (ja := ja) g rσ hj hja hjo b1 (fun σ' r r' f _ => ⟨r', h.fr f (by decide) (by decide), (f.2.1 3 (by decide)).1⟩)
theorem pub_records {ra : Nat → Nat} {jx : Nat → Nat → Nat} {rm : Nat} (g : Geo ra jx rm) {σ : Sg} {v1 : Int} {v2 : Int64} (rσ : Rg ra jx rm σ) (h : RI ra jx rm σ) (b1 : -2147483648 ≤ v1 ∧ v1 ≤ 2147483647) {X : Sg → String → Prop} : wp_X16_records ra jx rm v1 v2 σ (fun σ' (_ : Int) => Rg ra jx rm σ' ∧ RI ra jx rm σ' ∧ gI σ' rm 3 = gI σ rm 3) X := by
  obtain ⟨ja, hj, hja, hjo⟩ := h.jn
  exact s2_X16_records (ja := ja) g rσ hj hja hjo b1 (fun σ' r r' f _ => ⟨r', h.fr f (by decide) (by decide), (f.2.1 3 (by decide)).1⟩)
theorem pub_lineage {ra : Nat → Nat} {jx : Nat → Nat → Nat} {rm : Nat} (g : Geo ra jx rm) {σ : Sg} {v1 : Int} {v2 : Int} {v3 : Int} (rσ : Rg ra jx rm σ) (h : RI ra jx rm σ) (b1 : -2147483648 ≤ v1 ∧ v1 ≤ 2147483647) (b2 : -2147483648 ≤ v2 ∧ v2 ≤ 2147483647) (b3 : -2147483648 ≤ v3 ∧ v3 ≤ 2147483647) {X : Sg → String → Prop} : wp_X16_lineage ra jx rm v1 v2 v3 σ (fun σ' (_ : Int) => Rg ra jx rm σ' ∧ RI ra jx rm σ' ∧ gI σ' rm 3 = gI σ rm 3) X := by
  obtain ⟨ja, hj, hja, hjo⟩ := h.jn
  exact s2_X16_lineage (ja := ja) g rσ hj hja hjo h.1 b1 b2 b3 (fun σ' r r' f _ => ⟨r', h.fr f (by decide) (by decide), (f.2.1 3 (by decide)).1⟩)
theorem pub_row {ra : Nat → Nat} {jx : Nat → Nat → Nat} {rm : Nat} (g : Geo ra jx rm) {σ : Sg} {v1 : Int} {v2 : Int} {v3 : Int} (rσ : Rg ra jx rm σ) (h : RI ra jx rm σ) (b1 : -2147483648 ≤ v1 ∧ v1 ≤ 2147483647) (b2 : -2147483648 ≤ v2 ∧ v2 ≤ 2147483647) (b3 : -2147483648 ≤ v3 ∧ v3 ≤ 2147483647) {X : Sg → String → Prop} : wp_X16_row ra jx rm v1 v2 v3 σ (fun σ' (_ : Int64) => Rg ra jx rm σ' ∧ RI ra jx rm σ' ∧ gI σ' rm 3 = gI σ rm 3) X := by
  obtain ⟨ja, hj, hja, hjo⟩ := h.jn
  exact s2_X16_row (ja := ja) g rσ hj hja hjo h.1 b1 b2 b3 (fun σ' r r' f _ => ⟨r', h.fr f (by decide) (by decide), (f.2.1 3 (by decide)).1⟩)
theorem pub_give {ra : Nat → Nat} {jx : Nat → Nat → Nat} {rm : Nat} (g : Geo ra jx rm) {σ : Sg} {v1 : Int} {v2 : Int} {v3 : Int64} {v5 : Int64} {v7 : Int64} {v9 : Int64} (rσ : Rg ra jx rm σ) (h : RI ra jx rm σ) (b1 : -2147483648 ≤ v1 ∧ v1 ≤ 2147483647) (b2 : -2147483648 ≤ v2 ∧ v2 ≤ 2147483647) {X : Sg → String → Prop} : wp_X16_give ra jx rm v1 v2 v3 v5 v7 v9 σ (fun σ' (_ : Int) => Rg ra jx rm σ' ∧ RI ra jx rm σ' ∧ gI σ' rm 3 = gI σ rm 3) X := by
  obtain ⟨ja, hj, hja, hjo⟩ := h.jn
  exact s2_X16_give (ja := ja) g rσ hj hja hjo b1 b2 (fun σ' r r' f _ => ⟨r', h.fr f (by decide) (by decide), (f.2.1 3 (by decide)).1⟩)
theorem pub_close {ra : Nat → Nat} {jx : Nat → Nat → Nat} {rm : Nat} (g : Geo ra jx rm) {σ : Sg} {v1 : Int} (rσ : Rg ra jx rm σ) (h : RI ra jx rm σ) (b1 : -2147483648 ≤ v1 ∧ v1 ≤ 2147483647) {X : Sg → String → Prop} : wp_X16_close ra jx rm v1 σ (fun σ' (_ : Int) => Rg ra jx rm σ' ∧ RI ra jx rm σ' ∧ gI σ' rm 3 = gI σ rm 3) X := by
  obtain ⟨ja, hj, hja, hjo⟩ := h.jn
  exact s2_X16_close (ja := ja) g rσ hj hja hjo b1 (fun σ' r r' f _ => ⟨r', h.fr f (by decide) (by decide), (f.2.1 3 (by decide)).1⟩)
theorem pub_crash {ra : Nat → Nat} {jx : Nat → Nat → Nat} {rm : Nat} (g : Geo ra jx rm) {σ : Sg} {v1 : Int} (rσ : Rg ra jx rm σ) (h : RI ra jx rm σ) (b1 : -2147483648 ≤ v1 ∧ v1 ≤ 2147483647) {X : Sg → String → Prop} : wp_X16_crash ra jx rm v1 σ (fun σ' (_ : Unit) => Rg ra jx rm σ' ∧ RI ra jx rm σ' ∧ gI σ' rm 3 = gI σ rm 3) X := by
  exact s_X16_crash g rσ b1 (fun σ' r r' f _ => ⟨r', h.fr f (by decide) (by decide), (f.2.1 3 (by decide)).1⟩)
theorem pub_channel_ {ra : Nat → Nat} {jx : Nat → Nat → Nat} {rm : Nat} (g : Geo ra jx rm) {σ : Sg} {v1 : Int} {v2 : Int} (rσ : Rg ra jx rm σ) (h : RI ra jx rm σ) (b1 : -2147483648 ≤ v1 ∧ v1 ≤ 2147483647) (b2 : -2147483648 ≤ v2 ∧ v2 ≤ 2147483647) {X : Sg → String → Prop} : wp_X16_channel_ ra jx rm v1 v2 σ (fun σ' (_ : Int64) => Rg ra jx rm σ' ∧ RI ra jx rm σ' ∧ gI σ' rm 3 = gI σ rm 3) X := by
  exact s_X16_channel_ g rσ b1 b2 (fun σ' r r' f _ => ⟨r', h.fr f (by decide) (by decide), (f.2.1 3 (by decide)).1⟩)
theorem pub_onePass {ra : Nat → Nat} {jx : Nat → Nat → Nat} {rm : Nat} (g : Geo ra jx rm) {σ : Sg} (rσ : Rg ra jx rm σ) (h : RI ra jx rm σ) {X : Sg → String → Prop} : wp_X16_onePass ra jx rm σ (fun σ' (_ : Int) => Rg ra jx rm σ' ∧ RI ra jx rm σ' ∧ gI σ' rm 3 = gI σ rm 3) X := by
  obtain ⟨ja, hj, hja, hjo⟩ := h.jn
  exact s_X16_onePass (ja := ja) g rσ hj hja hjo h.1 (fun σ' r r' f _ => ⟨r', h.fr f (by decide) (by decide), (f.2.1 3 (by decide)).1⟩)

theorem pub_task {ra : Nat → Nat} {jx : Nat → Nat → Nat} {rm : Nat} (g : Geo ra jx rm) {σ : Sg} {v1 v2 : Int} (rσ : Rg ra jx rm σ) (h : RI ra jx rm σ) (b1 : -2147483648 ≤ v1 ∧ v1 ≤ 2147483647) (b2 : -2147483648 ≤ v2 ∧ v2 ≤ 2147483647) {X : Sg → String → Prop} : wp_X16_task ra jx rm v1 v2 σ (fun σ' (_ : Int64) => Rg ra jx rm σ' ∧ RI ra jx rm σ' ∧ gI σ' rm 3 = gI σ rm 3) X := by
  obtain ⟨ja, hja, hr⟩ := h.run
  have h36 : 0 < gI σ rm 36 → gI σ rm 30 ≠ 0 := fun q z => by have := h.2.2.2.2 z; omega
  exact s2_X16_task (ja := ja) g rσ (fun q => (hr (h36 q)).1) hja b1 b2 (fun q => (hr (h36 q)).2.2.2.1.1) (fun t a b => (hr (h36 (by omega))).2.2.2.2.2.2.2 t a b) (fun σ' r r' f _ => ⟨r', h.fr f (by decide) (by decide), (f.2.1 3 (by decide)).1⟩)
theorem pub_mark {ra : Nat → Nat} {jx : Nat → Nat → Nat} {rm : Nat} (g : Geo ra jx rm) {σ : Sg} (rσ : Rg ra jx rm σ) (h : RI ra jx rm σ) {X : Sg → String → Prop} : wp_X16_mark ra jx rm σ (fun σ' (_ : Int) => Rg ra jx rm σ' ∧ RI ra jx rm σ' ∧ gI σ' rm 3 = gI σ rm 3) X := by
  refine s2_X16_mark g rσ (fun σ' r r' f p => ⟨r', ?_, (f.2.1 3 (by decide)).1⟩)
  obtain ⟨h1, h2, h3, h4, h5⟩ := h
  refine ⟨h1.fr f (by decide) (by decide), fun ja hj => ?_, fun q => ?_, fun q => ?_, fun q => ?_⟩
  · rw [f.2.2.2] at hj; have w := h2 ja hj; exact ⟨w.1, w.2.fr w.1 f (by decide)⟩
  · rw [(f.2.1 30 (by decide)).1] at q
    obtain ⟨ja, x, y⟩ := h3 q
    obtain ⟨y1, ⟨⟨y2, y3, y4, y5⟩, y6, y7⟩, y8, y9, y10, y11⟩ := y
    refine ⟨ja, x, by rw [f.2.2.2]; exact y1, ⟨⟨y2.fr f (by decide) (by decide), y3.fr f (by decide) (by decide), y4.fr f (by decide) (by decide), ?_⟩, y6.fr f (by decide) (by decide), ?_⟩, ?_, y9.fr x f (by decide), ?_, y11.fr x f (by decide) (by decide)⟩
    · have e2 := (f.2.2.1 ja 2).1; have e12 := (f.2.2.1 ja 12).1; have e99 := (f.1 99 (by decide)).1; have e100 := (f.1 100 (by decide)).1; have e104 := (f.1 104 (by decide)).2
      refine ⟨fun i hi => (y5.1 i (by rw [p.1] at hi; exact hi)).eq e2 e12 (by rw [e99]) (by rw [e100]) (by rw [e104]), fun i hi => ?_⟩
      rcases p.2 with z | z
      · rw [z] at hi; omega
      · exact (y5.2 i (by rw [z] at hi; exact hi)).eq e2 e12 (by rw [e99]) (by rw [e100]) (by rw [e104])
    · rw [(f.1 54 (by decide)).1, (f.2.1 34 (by decide)).1]; exact y7
    · rw [(f.2.1 33 (by decide)).1]; exact y8
    · rw [(f.2.1 36 (by decide)).1]; exact y10
  · rw [(f.2.1 32 (by decide)).1] at q; rw [(f.2.1 30 (by decide)).1]; exact h4 q
  · rw [(f.2.1 30 (by decide)).1] at q; rw [(f.2.1 36 (by decide)).1]; exact h5 q
theorem pub_start {ra : Nat → Nat} {jx : Nat → Nat → Nat} {rm : Nat} (g : Geo ra jx rm) {σ : Sg} {v1 v2 : Int} {v3 : Int64} (rσ : Rg ra jx rm σ) (h : RI ra jx rm σ) (b1 : -2147483648 ≤ v1 ∧ v1 ≤ 2147483647) (b2 : -2147483648 ≤ v2 ∧ v2 ≤ 2147483647) {X : Sg → String → Prop} : wp_X16_start ra jx rm v1 v2 v3 σ (fun σ' (_ : Int) => Rg ra jx rm σ' ∧ RI ra jx rm σ' ∧ gI σ' rm 3 = gI σ rm 3) X := by
  obtain ⟨ja, hj, hja, hjo⟩ := h.jn
  refine s_X16_start (ja := ja) g rσ hj hja hjo b1 b2 (fun σ' r r' f p => ⟨r', ?_, (f.2.1 3 (by decide)).1⟩)
  rcases p with ⟨c, e⟩ | p
  · rw [e]; exact h.c g c
  · exact RI.ofRun p.1 hja (by rw [p.2]; decide)
theorem pub_fail_ {ra : Nat → Nat} {jx : Nat → Nat → Nat} {rm : Nat} (g : Geo ra jx rm) {σ : Sg} (rσ : Rg ra jx rm σ) (h : RI ra jx rm σ) {X : Sg → String → Prop} : wp_X16_fail_ ra jx rm σ (fun σ' (_ : Int) => Rg ra jx rm σ' ∧ RI ra jx rm σ' ∧ gI σ' rm 3 = gI σ rm 3) X := by
  obtain ⟨ja, hja, hr⟩ := h.run
  refine s2_X16_fail_ (ja := ja) g rσ hja hr (fun σ' r r' f p => ⟨r', ?_, (f.2.1 3 (by decide)).1⟩)
  rcases p with ⟨c, e⟩ | p
  · rw [e]; exact h.c g c
  · exact RI.ofRun p.1 hja (by rw [(f.2.1 30 (by decide)).1]; exact p.2)
theorem pub_rescale {ra : Nat → Nat} {jx : Nat → Nat → Nat} {rm : Nat} (g : Geo ra jx rm) {σ : Sg} {v1 : Int} (rσ : Rg ra jx rm σ) (h : RI ra jx rm σ) (b1 : -2147483648 ≤ v1 ∧ v1 ≤ 2147483647) {X : Sg → String → Prop} : wp_X16_rescale ra jx rm v1 σ (fun σ' (_ : Int) => Rg ra jx rm σ' ∧ RI ra jx rm σ' ∧ gI σ' rm 3 = gI σ rm 3) X := by
  obtain ⟨ja, hja, hr⟩ := h.run
  refine s2_X16_rescale (ja := ja) g rσ hja hr b1 (fun σ' r r' f p => ⟨r', ?_, (f.2.1 3 (by decide)).1⟩)
  rcases p with ⟨c, e⟩ | p
  · rw [e]; exact h.c g c
  · exact RI.ofRun p.1 hja (by rw [(f.2.1 30 (by decide)).1]; exact p.2)
theorem pub_reopen {ra : Nat → Nat} {jx : Nat → Nat → Nat} {rm : Nat} (g : Geo ra jx rm) {σ : Sg} (rσ : Rg ra jx rm σ) (h : RI ra jx rm σ) {X : Sg → String → Prop} : wp_X16_reopen ra jx rm σ (fun σ' (_ : Int) => Rg ra jx rm σ' ∧ RI ra jx rm σ' ∧ gI σ' rm 3 = gI σ rm 3) X := by
  obtain ⟨ja, hja, hr⟩ := h.run
  refine s2_X16_reopen (ja := ja) g rσ hja hr h.2.2.2.1 (fun σ' r r' f p => ⟨r', ?_, (f.2.1 3 (by decide)).1⟩)
  rcases p with ⟨c, e⟩ | p
  · rw [e]; exact h.c g c
  · exact RI.ofRun p.1 hja (by rw [(f.2.1 30 (by decide)).1]; exact p.2)
theorem pub_turn {ra : Nat → Nat} {jx : Nat → Nat → Nat} {rm : Nat} (g : Geo ra jx rm) {σ : Sg} {v1 : Int} (rσ : Rg ra jx rm σ) (h : RI ra jx rm σ) (b1 : -2147483648 ≤ v1 ∧ v1 ≤ 2147483647) {X : Sg → String → Prop} : wp_X16_turn ra jx rm v1 σ (fun σ' (_ : Int) => Rg ra jx rm σ' ∧ RI ra jx rm σ' ∧ gI σ' rm 3 = gI σ rm 3) X := by
  obtain ⟨ja, hja, hr⟩ := h.run
  refine s2_X16_turn (ja := ja) g rσ hja hr b1 (fun σ' r r' f p => ⟨r', ?_, (f.2.1 3 (by decide)).1⟩)
  by_cases q : gI σ rm 30 = 0
  · obtain ⟨c, e⟩ := p.2 q; rw [e]; exact h.c g c
  · have w := hr q
    have z := p.1 q
    refine RI.ofRun (ja := ja) ⟨by rw [f.2.2.2]; exact w.1, ⟨z.1, z.2.1, fun i hi => by rw [(f.2.1 34 (by decide)).1]; exact z.2.2 i hi⟩, by rw [(f.2.1 33 (by decide)).1]; exact w.2.2.1, w.2.2.2.1.fr hja f (by decide), by rw [(f.2.1 36 (by decide)).1]; exact w.2.2.2.2.1, w.2.2.2.2.2.fr hja f (by decide) (by decide)⟩ hja (by rw [(f.2.1 30 (by decide)).1]; exact q)
theorem pub_clear {ra : Nat → Nat} {jx : Nat → Nat → Nat} {rm : Nat} (g : Geo ra jx rm) {σ : Sg} (rσ : Rg ra jx rm σ) {X : Sg → String → Prop} : wp_X16_clear ra jx rm σ (fun σ' (_ : Unit) => Rg ra jx rm σ' ∧ RI ra jx rm σ' ∧ gI σ' rm 3 = 0) X := by
  refine s_X16_clear g rσ (fun σ' r r' f p => ⟨r', ?_, p.2.2.2.2.2.2.2.2.2.2.2.2.2⟩)
  obtain ⟨q1, q2, q3, q4, q5, q6, q7, q8, q9, q10, q11, q12, q13, q14⟩ := p
  exact ⟨q1, fun ja hj => by (rw [q12] at hj; cases hj), fun z => absurd q6 z, fun z => absurd q13 z, fun _ => q4⟩

/-- the reference's arrays, with one job in both jobs' places -/
def raO (ra : Nat → Nat) (od : Nat) : Nat → Nat := fun k => match k with | 15 => od | 16 => od | k => ra k
theorem raO_ne {ra : Nat → Nat} {od k : Nat} (h1 : k ≠ 15) (h2 : k ≠ 16) : raO ra od k = ra k := by
  unfold raO; split <;> first | rfl | omega
theorem FaI.toFr {ra : Nat → Nat} {jx : Nat → Nat → Nat} {rm da od : Nat} {σ σ' : Sg} (h : FaI ra jx rm da σ σ') (ho : od = ra 15 ∨ od = ra 16) (hn : od ≠ da) : Fr (raO ra od) (fun _ k => jx od k) rm [] [4, 5, 7, 8, 9, 10, 11, 12, 13, 19] (pP σ rm 18 (some da)) σ' := by
  have w := h.2.2.1 od ho hn
  refine ⟨fun k _ => ?_, fun k hk => h.2.1 k hk, fun _ k => w.1 k, h.2.2.2⟩
  by_cases a : k = 15
  · subst a; exact w.2
  · by_cases b : k = 16
    · subst b; exact w.2
    · rw [raO_ne a b]; exact h.1 k (by simp; exact ⟨a, b⟩)
theorem HeE.raO {ra : Nat → Nat} {rm od : Nat} {σ : Sg} : HeE (raO ra od) rm σ = HeE ra rm σ := rfl
theorem RunI.raO {ra : Nat → Nat} {jx : Nat → Nat → Nat} {rm od : Nat} {σ : Sg} : RunI (raO ra od) (fun _ k => jx od k) rm od σ = RunI ra jx rm od σ := rfl
theorem pub_job {ra : Nat → Nat} {jx : Nat → Nat → Nat} {rm : Nat} (g : Geo ra jx rm) {σ : Sg} (rσ : Rg ra jx rm σ) (h : RI ra jx rm σ) {X : Sg → String → Prop} : wp_X16_job ra jx rm σ (fun σ' (_ : Int) => Rg ra jx rm σ' ∧ RI ra jx rm σ' ∧ gI σ' rm 3 = 0) X := by
  refine s_X16_job g rσ (fun σ' r r' p => ⟨r', ?_, (by
    have z3 : gI (jb0 rm σ) rm 3 = 0 := by unfold jb0; simp [rII]
    rcases p with ⟨_, e⟩ | ⟨_, da, _, _, p⟩
    · rw [e]; simp [rII]
    · rcases p with ⟨fa, _⟩ | ⟨_, _, _, h3⟩
      · rw [(fa.2.1 3 (by decide)).1]; exact z3
      · rw [h3.2]; exact z3)⟩)
  rcases p with ⟨h32, e⟩ | ⟨h32, da, hda, hg, p⟩
  · rw [e]
    exact h.fr (K := []) (S := [0, 3, 6]) (Fr.sI g (Fr.sI g (Fr.sI g Fr.rf (by decide)) (by decide)) (by decide)) (by decide) (by decide)
  · have hs : RI ra jx rm (jb0 rm σ) := by
      unfold jb0
      exact h.fr (K := []) (S := [0, 3, 6, 7, 8]) (Fr.sI g (Fr.sI g (Fr.sI g (Fr.sI g (Fr.sI g Fr.rf (by decide)) (by decide)) (by decide)) (by decide)) (by decide)) (by decide) (by decide)
    have hgs : gP (jb0 rm σ) rm 17 = gP σ rm 17 := rfl
    rcases p with ⟨fa, _⟩ | ⟨nr, hj, jo, h32', _⟩
    · obtain ⟨od, ho, hn, hoj⟩ : ∃ od, (od = ra 15 ∨ od = ra 16) ∧ od ≠ da ∧ (∀ ja, (ja = ra 15 ∨ ja = ra 16) → ja ≠ da → ja = od) := by
        have hne : ra 15 ≠ ra 16 := fun q => by have := (g.1 15 16).mp q; omega
        rcases hda with q | q
        · exact ⟨ra 16, Or.inr rfl, by rw [q]; exact fun z => hne z.symm, fun ja a b => by rcases a with a | a; exact absurd (a.trans q.symm) b; exact a⟩
        · exact ⟨ra 15, Or.inl rfl, by rw [q]; exact hne, fun ja a b => by rcases a with a | a; exact a; exact absurd (a.trans q.symm) b⟩
      have f := fa.toFr ho hn
      have hP : gP σ' rm 17 = gP σ rm 17 := by rw [fa.2.2.2, rPP, if_neg (by simp)]; rfl
      obtain ⟨s1, s2, s3, s4, s5⟩ := hs
      have ex : ∀ ja, gP σ rm 17 = some ja → ja = od := fun ja hj => hoj ja (s2 ja hj).1 (fun q => hg (by rw [hj, q]))
      refine ⟨?_, fun ja hj => ?_, fun q => ?_, fun q => ?_, fun q => ?_⟩
      · exact HeE.fr (ra := raO ra od) (jx := fun _ k => jx od k) (σ := pP (jb0 rm σ) rm 18 (some da)) s1 f (by decide) (by decide)
      · rw [hP] at hj
        have e := ex ja hj
        have w := s2 ja hj
        subst e
        exact ⟨w.1, JobOK.fr (ra := raO ra ja) (jx := fun _ k => jx ja k) (σ := pP (jb0 rm σ) rm 18 (some da)) w.2 (Or.inl rfl) f (by decide)⟩
      · rw [(f.2.1 30 (by decide)).1] at q
        obtain ⟨ja, x, y⟩ := s3 q
        have e := ex ja y.1
        subst e
        refine ⟨ja, x, ?_⟩
        have y2 : RunI (raO ra ja) (fun _ k => jx ja k) rm ja (pP (jb0 rm σ) rm 18 (some da)) := by
          rw [RunI.raO]
          obtain ⟨y1, y3⟩ := y
          exact ⟨by rw [rPP, if_neg (by simp)]; exact y1, y3⟩
        have y4 := RunI.fr y2 (Or.inl rfl) f (by decide) (by decide)
        rw [RunI.raO] at y4; exact y4
      · rw [(f.2.1 32 (by decide)).1] at q; rw [(f.2.1 30 (by decide)).1]; exact s4 q
      · rw [(f.2.1 30 (by decide)).1] at q; rw [(f.2.1 36 (by decide)).1]; exact s5 q
    · obtain ⟨q1, q2, q3, q4, q5, q6, q7, q8, q9, q10, q11⟩ := nr
      have z32 : gI (jb0 rm σ) rm 32 = 0 := by unfold jb0; simp [rII]; exact h32
      exact ⟨q1, fun ja hj2 => by rw [hj] at hj2; cases hj2; exact ⟨hda, jo⟩, fun z => absurd q6 z, fun z => absurd (h32'.trans z32) z, fun _ => q4⟩


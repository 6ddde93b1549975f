theorem s_rec {ra : Nat → Nat} {jx : Nat → Nat → Nat} {rm : Nat} : ∀ n : Nat, (∀ {da : Nat} {o : Int} {dp : Int → Int} {ex : Int → Prop} (_ : Geo ra jx rm) {σ : Sg} {v1 : Int} (_ : Rg ra jx rm σ) (_ : PsI rm σ) (_ : gP σ rm 18 = some da) (_ : da = ra 15 ∨ da = ra 16) (_ : 0 ≤ v1 ∧ v1 < 16) (_ : 0 ≤ gI σ da 17 ∧ gI σ da 17 ≤ 4 * cn rm σ) (_ : PgI jx da σ dp ex) (_ : 0 ≤ dp (gI σ da 17) ∧ dp (gI σ da 17) ≤ 3 * gI σ rm 19 + 0) (_ : ∀ pc, gI σ da 17 ≤ pc → ¬ ex pc) (_ : 7 * (11 - gI σ rm 19) - 0 ≤ (n : Int)) {Q : Sg → Unit → Prop} {X : Sg → String → Prop} (_ : ∀ (σ' : Sg) (r : Unit), Rg ra jx rm σ' → FdO ra jx rm da o [15, 16] [4, 5, 7, 8, 9, 10, 11, 12, 13, 19] [15, 16] σ σ' → ((∃ dq : Int → Int, (∀ pc, pc ≤ gI σ da 17 → dq pc = dp pc) ∧ PgI jx da σ' dq ex ∧ dq (gI σ' da 17) = dp (gI σ da 17) + 1) ∧ PsI rm σ' ∧ gI σ' da 17 - 4 * cn rm σ' ≤ gI σ da 17 - 4 * cn rm σ ∧ gI σ' rm 19 = gI σ rm 19 ∧ gI σ da 17 < gI σ' da 17 ∧ (∀ k, k ≠ 17 → gI σ' da k = gI σ da k)) → Q σ' r) (_ : ∀ (σ' : Sg) (E : String), Rg ra jx rm σ' → FdO ra jx rm da o [15, 16] [4, 5, 7, 8, 9, 10, 11, 12, 13, 19] [15, 16] σ σ' → (E = "StreamHouseModel$Fault") → X σ' E), wrec ra jx rm n 0 v1 σ Q X) ∧ (∀ {da : Nat} {o : Int} {dp : Int → Int} {ex : Int → Prop} (_ : Geo ra jx rm) {σ : Sg} {v1 : Int} (_ : Rg ra jx rm σ) (_ : PsI rm σ) (_ : gP σ rm 18 = some da) (_ : da = ra 15 ∨ da = ra 16) (_ : 0 ≤ v1 ∧ v1 < 16) (_ : 0 ≤ gI σ da 17 ∧ gI σ da 17 ≤ 4 * cn rm σ) (_ : PgI jx da σ dp ex) (_ : 0 ≤ dp (gI σ da 17) ∧ dp (gI σ da 17) ≤ 3 * gI σ rm 19 + 0) (_ : ∀ pc, gI σ da 17 ≤ pc → ¬ ex pc) (_ : 7 * (11 - gI σ rm 19) - 1 ≤ (n : Int)) {Q : Sg → Unit → Prop} {X : Sg → String → Prop} (_ : ∀ (σ' : Sg) (r : Unit), Rg ra jx rm σ' → FdO ra jx rm da o [15, 16] [4, 5, 7, 8, 9, 10, 11, 12, 13, 19] [15, 16] σ σ' → ((∃ dq : Int → Int, (∀ pc, pc ≤ gI σ da 17 → dq pc = dp pc) ∧ PgI jx da σ' dq ex ∧ dq (gI σ' da 17) = dp (gI σ da 17) + 1) ∧ PsI rm σ' ∧ gI σ' da 17 - 4 * cn rm σ' ≤ gI σ da 17 - 4 * cn rm σ ∧ gI σ' rm 19 = gI σ rm 19 ∧ gI σ da 17 < gI σ' da 17 ∧ (∀ k, k ≠ 17 → gI σ' da k = gI σ da k)) → Q σ' r) (_ : ∀ (σ' : Sg) (E : String), Rg ra jx rm σ' → FdO ra jx rm da o [15, 16] [4, 5, 7, 8, 9, 10, 11, 12, 13, 19] [15, 16] σ σ' → (E = "StreamHouseModel$Fault") → X σ' E), wrec ra jx rm n 1 v1 σ Q X) ∧ (∀ {da : Nat} {o : Int} {dp : Int → Int} {ex : Int → Prop} (_ : Geo ra jx rm) {σ : Sg} {v1 : Int} (_ : Rg ra jx rm σ) (_ : PsI rm σ) (_ : gP σ rm 18 = some da) (_ : da = ra 15 ∨ da = ra 16) (_ : 0 ≤ v1 ∧ v1 < 16) (_ : 0 ≤ gI σ da 17 ∧ gI σ da 17 ≤ 4 * cn rm σ) (_ : PgI jx da σ dp ex) (_ : 0 ≤ dp (gI σ da 17) ∧ dp (gI σ da 17) ≤ 3 * gI σ rm 19 + 0) (_ : ∀ pc, gI σ da 17 ≤ pc → ¬ ex pc) (_ : 7 * (11 - gI σ rm 19) - 2 ≤ (n : Int)) {Q : Sg → Unit → Prop} {X : Sg → String → Prop} (_ : ∀ (σ' : Sg) (r : Unit), Rg ra jx rm σ' → FdO ra jx rm da o [15, 16] [4, 5, 7, 8, 9, 10, 11, 12, 13, 19] [15, 16] σ σ' → ((∃ dq : Int → Int, (∀ pc, pc ≤ gI σ da 17 → dq pc = dp pc) ∧ PgI jx da σ' dq ex ∧ dq (gI σ' da 17) = dp (gI σ da 17) + 1) ∧ PsI rm σ' ∧ gI σ' da 17 - 4 * cn rm σ' ≤ gI σ da 17 - 4 * cn rm σ ∧ gI σ' rm 19 = gI σ rm 19 ∧ gI σ da 17 < gI σ' da 17 ∧ (∀ k, k ≠ 17 → gI σ' da k = gI σ da k)) → Q σ' r) (_ : ∀ (σ' : Sg) (E : String), Rg ra jx rm σ' → FdO ra jx rm da o [15, 16] [4, 5, 7, 8, 9, 10, 11, 12, 13, 19] [15, 16] σ σ' → (E = "StreamHouseModel$Fault") → X σ' E), wrec ra jx rm n 2 v1 σ Q X) ∧ (∀ {da : Nat} {o : Int} {dp : Int → Int} {ex : Int → Prop} (_ : Geo ra jx rm) {σ : Sg} {v1 : Int} (_ : Rg ra jx rm σ) (_ : PsI rm σ) (_ : gP σ rm 18 = some da) (_ : da = ra 15 ∨ da = ra 16) (_ : 0 ≤ v1 ∧ v1 < 16) (_ : 0 ≤ gI σ da 17 ∧ gI σ da 17 ≤ 4 * cn rm σ) (_ : PgI jx da σ dp ex) (_ : 0 ≤ dp (gI σ da 17) ∧ dp (gI σ da 17) ≤ 3 * gI σ rm 19 + 0) (_ : ∀ pc, gI σ da 17 ≤ pc → ¬ ex pc) (_ : 7 * (11 - gI σ rm 19) - 3 ≤ (n : Int)) {Q : Sg → Unit → Prop} {X : Sg → String → Prop} (_ : ∀ (σ' : Sg) (r : Unit), Rg ra jx rm σ' → FdO ra jx rm da o [15, 16] [4, 5, 7, 8, 9, 10, 11, 12, 13, 19] [15, 16] σ σ' → ((∃ dq : Int → Int, (∀ pc, pc ≤ gI σ da 17 → dq pc = dp pc) ∧ PgI jx da σ' dq ex ∧ dq (gI σ' da 17) = dp (gI σ da 17) + 1) ∧ PsI rm σ' ∧ gI σ' da 17 - 4 * cn rm σ' ≤ gI σ da 17 - 4 * cn rm σ ∧ gI σ' rm 19 = gI σ rm 19 ∧ gI σ da 17 < gI σ' da 17 ∧ (∀ k, k ≠ 17 → gI σ' da k = gI σ da k)) → Q σ' r) (_ : ∀ (σ' : Sg) (E : String), Rg ra jx rm σ' → FdO ra jx rm da o [15, 16] [4, 5, 7, 8, 9, 10, 11, 12, 13, 19] [15, 16] σ σ' → (E = "StreamHouseModel$Fault") → X σ' E), wrec ra jx rm n 3 v1 σ Q X) ∧ (∀ {da : Nat} {o : Int} {dp : Int → Int} {ex : Int → Prop} (_ : Geo ra jx rm) {σ : Sg} {v1 : Int} (_ : Rg ra jx rm σ) (_ : PsI rm σ) (_ : gP σ rm 18 = some da) (_ : da = ra 15 ∨ da = ra 16) (_ : 0 ≤ v1 ∧ v1 < 16) (_ : 0 ≤ gI σ da 17 ∧ gI σ da 17 ≤ 4 * cn rm σ) (_ : PgI jx da σ dp ex) (_ : 0 ≤ dp (gI σ da 17) ∧ dp (gI σ da 17) ≤ 3 * gI σ rm 19 + 1) (_ : ∀ pc, gI σ da 17 ≤ pc → ¬ ex pc) (_ : 7 * (11 - gI σ rm 19) - 4 ≤ (n : Int)) {Q : Sg → Unit → Prop} {X : Sg → String → Prop} (_ : ∀ (σ' : Sg) (r : Unit), Rg ra jx rm σ' → FdO ra jx rm da o [15, 16] [4, 5, 7, 8, 9, 10, 11, 12, 13, 19] [15, 16] σ σ' → ((∃ dq : Int → Int, (∀ pc, pc ≤ gI σ da 17 → dq pc = dp pc) ∧ PgI jx da σ' dq ex ∧ dq (gI σ' da 17) = dp (gI σ da 17) + 1) ∧ PsI rm σ' ∧ gI σ' da 17 - 4 * cn rm σ' ≤ gI σ da 17 - 4 * cn rm σ ∧ gI σ' rm 19 = gI σ rm 19 ∧ gI σ da 17 < gI σ' da 17 ∧ (∀ k, k ≠ 17 → gI σ' da k = gI σ da k)) → Q σ' r) (_ : ∀ (σ' : Sg) (E : String), Rg ra jx rm σ' → FdO ra jx rm da o [15, 16] [4, 5, 7, 8, 9, 10, 11, 12, 13, 19] [15, 16] σ σ' → (E = "StreamHouseModel$Fault") → X σ' E), wrec ra jx rm n 4 v1 σ Q X) ∧ (∀ {da : Nat} {o : Int} {dp : Int → Int} {ex : Int → Prop} (_ : Geo ra jx rm) {σ : Sg} {v1 : Int} (_ : Rg ra jx rm σ) (_ : PsI rm σ) (_ : gP σ rm 18 = some da) (_ : da = ra 15 ∨ da = ra 16) (_ : 0 ≤ v1 ∧ v1 < 16) (_ : 0 ≤ gI σ da 17 ∧ gI σ da 17 ≤ 4 * cn rm σ) (_ : PgI jx da σ dp ex) (_ : 0 ≤ dp (gI σ da 17) ∧ dp (gI σ da 17) ≤ 3 * gI σ rm 19 + 2) (_ : ∀ pc, gI σ da 17 ≤ pc → ¬ ex pc) (_ : 7 * (11 - gI σ rm 19) - 5 ≤ (n : Int)) {Q : Sg → Unit → Prop} {X : Sg → String → Prop} (_ : ∀ (σ' : Sg) (r : Unit), Rg ra jx rm σ' → FdO ra jx rm da o [15, 16] [4, 5, 7, 8, 9, 10, 11, 12, 13, 19] [15, 16] σ σ' → ((∃ dq : Int → Int, (∀ pc, pc ≤ gI σ da 17 → dq pc = dp pc) ∧ PgI jx da σ' dq ex ∧ dq (gI σ' da 17) = dp (gI σ da 17) + 1) ∧ PsI rm σ' ∧ gI σ' da 17 - 4 * cn rm σ' ≤ gI σ da 17 - 4 * cn rm σ ∧ gI σ' rm 19 = gI σ rm 19 ∧ gI σ da 17 < gI σ' da 17 ∧ (∀ k, k ≠ 17 → gI σ' da k = gI σ da k)) → Q σ' r) (_ : ∀ (σ' : Sg) (E : String), Rg ra jx rm σ' → FdO ra jx rm da o [15, 16] [4, 5, 7, 8, 9, 10, 11, 12, 13, 19] [15, 16] σ σ' → (E = "StreamHouseModel$Fault") → X σ' E), wrec ra jx rm n 5 v1 σ Q X) ∧ (∀ {da : Nat} {o : Int} {dp : Int → Int} {ex : Int → Prop} (_ : Geo ra jx rm) {σ : Sg} {v1 : Int} (_ : Rg ra jx rm σ) (_ : PsI rm σ) (_ : gP σ rm 18 = some da) (_ : da = ra 15 ∨ da = ra 16) (_ : 0 ≤ v1 ∧ v1 < 16) (_ : 0 ≤ gI σ da 17 ∧ gI σ da 17 ≤ 4 * cn rm σ) (_ : PgI jx da σ dp ex) (_ : 0 ≤ dp (gI σ da 17) ∧ dp (gI σ da 17) ≤ 3 * gI σ rm 19 + 3) (_ : ∀ pc, gI σ da 17 ≤ pc → ¬ ex pc) (_ : 7 * (11 - gI σ rm 19) - 6 ≤ (n : Int)) {Q : Sg → Unit → Prop} {X : Sg → String → Prop} (_ : ∀ (σ' : Sg) (r : Unit), Rg ra jx rm σ' → FdO ra jx rm da o [15, 16] [4, 5, 7, 8, 9, 10, 11, 12, 13, 19] [15, 16] σ σ' → ((∃ dq : Int → Int, (∀ pc, pc ≤ gI σ da 17 → dq pc = dp pc) ∧ PgI jx da σ' dq ex ∧ dq (gI σ' da 17) = dp (gI σ da 17) + 1) ∧ PsI rm σ' ∧ gI σ' da 17 - 4 * cn rm σ' ≤ gI σ da 17 - 4 * cn rm σ ∧ gI σ' rm 19 = gI σ rm 19 ∧ gI σ da 17 < gI σ' da 17 ∧ (∀ k, k ≠ 17 → gI σ' da k = gI σ da k)) → Q σ' r) (_ : ∀ (σ' : Sg) (E : String), Rg ra jx rm σ' → FdO ra jx rm da o [15, 16] [4, 5, 7, 8, 9, 10, 11, 12, 13, 19] [15, 16] σ σ' → (E = "StreamHouseModel$Fault") → X σ' E), wrec ra jx rm n 6 v1 σ Q X) := by
  intro n
  induction n with
  | zero =>
    refine ⟨?_, ?_, ?_, ?_, ?_, ?_, ?_⟩
    · intro da o dp ex g σ v1 rσ hps hd hda h1 hN hpg hdp hex hfu Q X hQ hX; have q := rσ.2.1 19; simp only [rgS] at q; exact absurd hfu (by omega)
    · intro da o dp ex g σ v1 rσ hps hd hda h1 hN hpg hdp hex hfu Q X hQ hX; have q := rσ.2.1 19; simp only [rgS] at q; exact absurd hfu (by omega)
    · intro da o dp ex g σ v1 rσ hps hd hda h1 hN hpg hdp hex hfu Q X hQ hX; have q := rσ.2.1 19; simp only [rgS] at q; exact absurd hfu (by omega)
    · intro da o dp ex g σ v1 rσ hps hd hda h1 hN hpg hdp hex hfu Q X hQ hX; have q := rσ.2.1 19; simp only [rgS] at q; exact absurd hfu (by omega)
    · intro da o dp ex g σ v1 rσ hps hd hda h1 hN hpg hdp hex hfu Q X hQ hX; have q := rσ.2.1 19; simp only [rgS] at q; exact absurd hfu (by omega)
    · intro da o dp ex g σ v1 rσ hps hd hda h1 hN hpg hdp hex hfu Q X hQ hX; have q := rσ.2.1 19; simp only [rgS] at q; exact absurd hfu (by omega)
    · intro da o dp ex g σ v1 rσ hps hd hda h1 hN hpg hdp hex hfu Q X hQ hX; have q := rσ.2.1 19; simp only [rgS] at q; exact absurd hfu (by omega)
  | succ n ih =>
    obtain ⟨ih0, ih1, ih2, ih3, ih4, ih5, ih6⟩ := ih
    refine ⟨?_, ?_, ?_, ?_, ?_, ?_, ?_⟩
    · intro da o dp ex g σ v1 rσ hps hd hda h1 hN hpg hdp hex hfu Q X hQ hX; exact s_X16_choice g rσ hps hd hda h1 hN hpg hdp hex (by omega) ih0 ih1 ih2 ih3 ih4 ih5 ih6 hQ hX
    · intro da o dp ex g σ v1 rσ hps hd hda h1 hN hpg hdp hex hfu Q X hQ hX; exact s_X16_either g rσ hps hd hda h1 hN hpg hdp hex (by omega) ih0 ih1 ih2 ih3 ih4 ih5 ih6 hQ hX
    · intro da o dp ex g σ v1 rσ hps hd hda h1 hN hpg hdp hex hfu Q X hQ hX; exact s_X16_both g rσ hps hd hda h1 hN hpg hdp hex (by omega) ih0 ih1 ih2 ih3 ih4 ih5 ih6 hQ hX
    · intro da o dp ex g σ v1 rσ hps hd hda h1 hN hpg hdp hex hfu Q X hQ hX; exact s_X16_compared g rσ hps hd hda h1 hN hpg hdp hex (by omega) ih0 ih1 ih2 ih3 ih4 ih5 ih6 hQ hX
    · intro da o dp ex g σ v1 rσ hps hd hda h1 hN hpg hdp hex hfu Q X hQ hX; exact s_X16_sum g rσ hps hd hda h1 hN hpg hdp hex (by omega) ih0 ih1 ih2 ih3 ih4 ih5 ih6 hQ hX
    · intro da o dp ex g σ v1 rσ hps hd hda h1 hN hpg hdp hex hfu Q X hQ hX; exact s_X16_product g rσ hps hd hda h1 hN hpg hdp hex (by omega) ih0 ih1 ih2 ih3 ih4 ih5 ih6 hQ hX
    · intro da o dp ex g σ v1 rσ hps hd hda h1 hN hpg hdp hex hfu Q X hQ hX; exact s_X16_single g rσ hps hd hda h1 hN hpg hdp hex (by omega) ih0 ih1 ih2 ih3 ih4 ih5 ih6 hQ hX
theorem sv_X16_choice {ra : Nat → Nat} {jx : Nat → Nat → Nat} {rm : Nat} {da : Nat} {o : Int} {dp : Int → Int} {ex : Int → Prop} (g : Geo ra jx rm) {σ : Sg} {v1 : Int} (rσ : Rg ra jx rm σ) (hps : PsI rm σ) (hd : gP σ rm 18 = some da) (hda : da = ra 15 ∨ da = ra 16) (h1 : 0 ≤ v1 ∧ v1 < 16) (hN : 0 ≤ gI σ da 17 ∧ gI σ da 17 ≤ 4 * cn rm σ) (hpg : PgI jx da σ dp ex) (hdp : 0 ≤ dp (gI σ da 17) ∧ dp (gI σ da 17) ≤ 3 * gI σ rm 19 + 0) (hex : ∀ pc, gI σ da 17 ≤ pc → ¬ ex pc) (hfu : 7 * (11 - gI σ rm 19) - 0 ≤ ((100 : Nat) : Int)) {Q : Sg → Unit → Prop} {X : Sg → String → Prop} (hQ : ∀ (σ' : Sg) (r : Unit), Rg ra jx rm σ' → FdO ra jx rm da o [15, 16] [4, 5, 7, 8, 9, 10, 11, 12, 13, 19] [15, 16] σ σ' → ((∃ dq : Int → Int, (∀ pc, pc ≤ gI σ da 17 → dq pc = dp pc) ∧ PgI jx da σ' dq ex ∧ dq (gI σ' da 17) = dp (gI σ da 17) + 1) ∧ PsI rm σ' ∧ gI σ' da 17 - 4 * cn rm σ' ≤ gI σ da 17 - 4 * cn rm σ ∧ gI σ' rm 19 = gI σ rm 19 ∧ gI σ da 17 < gI σ' da 17 ∧ (∀ k, k ≠ 17 → gI σ' da k = gI σ da k)) → Q σ' r) (hX : ∀ (σ' : Sg) (E : String), Rg ra jx rm σ' → FdO ra jx rm da o [15, 16] [4, 5, 7, 8, 9, 10, 11, 12, 13, 19] [15, 16] σ σ' → (E = "StreamHouseModel$Fault") → X σ' E) : wp_X16_choice ra jx rm v1 σ Q X := (s_rec 100).1 g rσ hps hd hda h1 hN hpg hdp hex hfu hQ hX


section VL
variable {ra : Nat → Nat} {jx : Nat → Nat → Nat} {rm da : Nat} {o : Int} {σ σ' : Sg}
theorem PO.ow {p : Int} (h : PO jx da σ p) (w : Ow jx da o σ σ') (h6 : gI σ' da 17 ≤ 6000) : PO jx da σ' p := by
  obtain ⟨dp, h1, h2, h3, h4, h5⟩ := h
  have hm := w.2
  have e15 : ∀ pc : Int, 0 ≤ pc → pc < gI σ da 17 → gI σ' (jx da 15) pc.toNat = gI σ (jx da 15) pc.toNat := fun pc a b => (w.1 15 pc.toNat (by simp only [Jk]; omega)).1
  have e16 : ∀ pc : Int, 0 ≤ pc → pc < gI σ da 17 → gJ σ' (jx da 16) pc.toNat = gJ σ (jx da 16) pc.toNat := fun pc a b => (w.1 16 pc.toNat (by simp only [Jk]; omega)).2
  refine ⟨fun pc => if pc < gI σ da 17 then dp pc else -1, fun pc a b c => ?_, ?_, h3, by omega, h6⟩
  · have hpc : pc < gI σ da 17 := by
      by_cases q : pc < gI σ da 17
      · exact q
      · dsimp only at c; rw [if_neg q] at c; omega
    have u : ∀ q, q < gI σ da 17 → (if q < gI σ da 17 then dp q else -1) = dp q := fun q hq => if_pos hq
    dsimp only at c ⊢
    rw [u pc hpc] at c
    have v := h1 pc a hpc c
    rw [e15 pc a hpc, e16 pc a hpc, u pc hpc]
    obtain ⟨v1, v2, v3, v4, v5, v6, v7, v8, v9⟩ := v
    refine ⟨v1, v2, fun x y => by have := v3 x y; omega, fun x => ?_, v5, fun x => ?_, fun x => ?_, fun x => ?_, fun x => ?_⟩
    · rw [u (pc + 1) (v3 (by omega) (by omega))]; exact v4 x
    · rw [u (pc + 1) (v3 (by omega) (by omega))]; exact v6 x
    · have z := v7 x
      rw [u (pc + 1) (v3 (by omega) (by omega)), u _ z.2.2.2.1]; exact ⟨z.1, z.2.1, z.2.2.1, by omega, z.2.2.2.2⟩
    · have z := v8 x
      rw [u _ z.2.1]; exact ⟨z.1, by omega, z.2.2⟩
    · rw [u (pc + 1) (v3 (by omega) (by omega))]; exact v9 x
  · dsimp only; rw [if_pos h4]; exact h2
/-- operators laid before are as they were -/
theorem OpOR.ow {p : Int} (h : OpOR jx da σ p) (w : Ow jx da o σ σ') (hp : 0 ≤ p ∧ p < o) (r12 : ∀ i, gI σ (jx da 12) i ≤ 8) (h6 : gI σ' da 17 ≤ 6000) : OpOR jx da σ' p := by
  have e : ∀ k, k = 2 ∨ k = 4 ∨ k = 5 ∨ k = 6 ∨ k = 8 ∨ k = 9 ∨ k = 12 → gI σ' (jx da k) p.toNat = gI σ (jx da k) p.toNat ∧ gJ σ' (jx da k) p.toNat = gJ σ (jx da k) p.toNat := fun k hk => w.1 k p.toNat (by rcases hk with q | q | q | q | q | q | q <;> subst q <;> simp only [Jk] <;> omega)
  have e2 : ∀ k (j : Int), k = 13 ∨ k = 14 → 0 ≤ j → j < 8 → gI σ' (jx da k) (8 * p + j).toNat = gI σ (jx da k) (8 * p + j).toNat := fun k j hk a b => (w.1 k _ (by rcases hk with q | q <;> subst q <;> simp only [Jk] <;> omega)).1
  have e6 : gI σ (jx da 4) p.toNat < p → gI σ' (jx da 6) (gI σ (jx da 4) p.toNat).toNat = gI σ (jx da 6) (gI σ (jx da 4) p.toNat).toNat := fun q => (w.1 6 _ (by simp only [Jk]; omega)).1
  have r := r12 p.toNat
  unfold OpOR at h ⊢
  obtain ⟨c1, c2, c3, c4, c5, c6, c7, c8, c9, c10, c11, c12⟩ := h
  rw [(e 2 (by simp)).1, (e 4 (by simp)).1, (e 5 (by simp)).1, (e 6 (by simp)).1, (e 8 (by simp)).2, (e 9 (by simp)).2, (e 12 (by simp)).1, e6 c11]
  refine ⟨c1, c2, c3, fun q => ⟨(c4 q).1, fun k a b => ?_⟩, c5, fun q => ⟨(c6 q).1, fun k a b => ?_⟩, c7, c8, c9, c10, c11, c12⟩
  · rw [e2 13 k (Or.inl rfl) a (by omega)]; exact ((c4 q).2 k a b).ow w h6
  · rw [e2 13 k (Or.inl rfl) a (by omega), e2 14 k (Or.inr rfl) a (by omega)]; exact fun z => ((c6 q).2 k a b z).ow w h6
theorem cnI {rm : Nat} {σ : Sg} {a k : Nat} {x : Int} (h : ¬ rm = a) : cn rm (pI σ a k x) = cn rm σ := by
  unfold cn; simp only [rII]; simp [h]
theorem PsIe {rm : Nat} {σ : Sg} {a k : Nat} {x : Int} (h : ¬ rm = a) : PsI rm (pI σ a k x) = PsI rm σ := by
  unfold PsI; simp only [rII]; simp [h]
theorem PsIJe {rm : Nat} {σ : Sg} {a k : Nat} {x : Int64} : PsI rm (pJ σ a k x) = PsI rm σ := rfl
theorem i64_03 {x : Int64} (h : (0 : Int64) ≤ x ∧ x ≤ 3) : 0 ≤ x.toInt32.toInt ∧ x.toInt32.toInt < 4 := by
  have h1 : (0 : Int64).toInt ≤ x.toInt := by rw [← Int64.le_iff_toInt_le]; exact h.1
  have h2 : x.toInt ≤ (3 : Int64).toInt := by rw [← Int64.le_iff_toInt_le]; exact h.2
  have z0 : (0 : Int64).toInt = 0 := rfl
  have z3 : (3 : Int64).toInt = 3 := rfl
  rw [Int64.toInt_toInt32, Int.bmod_def]; omega
theorem i64_bd {x a b : Int64} (h : a ≤ x ∧ x ≤ b) : a.toInt ≤ x.toInt ∧ x.toInt ≤ b.toInt := ⟨by rw [← Int64.le_iff_toInt_le]; exact h.1, by rw [← Int64.le_iff_toInt_le]; exact h.2⟩
end VL
/-- the values of operator o -/
def VsI (jx : Nat → Nat → Nat) (da : Nat) (σ : Sg) (o n : Int) : Prop := ∀ k, 0 ≤ k → k < n → PO jx da σ (gI σ (jx da 13) (8 * o + k).toNat)
def VsA (jx : Nat → Nat → Nat) (da : Nat) (σ : Sg) (o n : Int) : Prop := ∀ k, 0 ≤ k → k < n → gI σ (jx da 14) (8 * o + k).toNat ≠ 0 → PO jx da σ (gI σ (jx da 13) (8 * o + k).toNat)
section VS
variable {ra : Nat → Nat} {jx : Nat → Nat → Nat} {rm da : Nat} {o n : Int} {σ σ' : Sg} {K S J : List Nat}
theorem PO.same {p : Int} (h : PO jx da σ p) (e17 : gI σ' da 17 = gI σ da 17) (e15 : gI σ' (jx da 15) = gI σ (jx da 15)) (e16 : gJ σ' (jx da 16) = gJ σ (jx da 16)) : PO jx da σ' p := by
  unfold PO Prog at *
  rw [e17, e15, e16]; exact h
theorem VsI.fr (h : VsI jx da σ o n) (hda : da = ra 15 ∨ da = ra 16) (f : Fr ra jx rm K S σ σ') (hK : ([15, 16].all fun k => !K.contains k) = true) : VsI jx da σ' o n := fun k a b => by
  rw [(f.2.2.1 da 13).1]; exact (h k a b).fr hda f hK
theorem VsA.fr (h : VsA jx da σ o n) (hda : da = ra 15 ∨ da = ra 16) (f : Fr ra jx rm K S σ σ') (hK : ([15, 16].all fun k => !K.contains k) = true) : VsA jx da σ' o n := fun k a b => by
  rw [(f.2.2.1 da 13).1, (f.2.2.1 da 14).1]; exact fun c => (h k a b c).fr hda f hK
theorem VsI.fd (h : VsI jx da σ o n) (f : FdO ra jx rm da o K S J σ σ') (hJ : (!J.contains 13) = true) (h6 : gI σ' da 17 ≤ 6000) : VsI jx da σ' o n := fun k a b => by
  rw [(f.2.2.1 da 13 (by simpa using hJ)).1]; exact (h k a b).ow f.2.2.2.2.2 h6
theorem VsA.fd (h : VsA jx da σ o n) (f : FdO ra jx rm da o K S J σ σ') (hJ : (!J.contains 13 && !J.contains 14) = true) (h6 : gI σ' da 17 ≤ 6000) : VsA jx da σ' o n := fun k a b => by
  simp at hJ
  rw [(f.2.2.1 da 13 hJ.1).1, (f.2.2.1 da 14 hJ.2).1]; exact fun c => (h k a b c).ow f.2.2.2.2.2 h6
theorem VsI.put {r : Int} (h : VsI jx da σ o n) (hr : PO jx da σ r) (ho : 0 ≤ o) (hn : 0 ≤ n) (e17 : gI σ' da 17 = gI σ da 17) (e15 : gI σ' (jx da 15) = gI σ (jx da 15)) (e16 : gJ σ' (jx da 16) = gJ σ (jx da 16)) (e13 : ∀ i : Nat, gI σ' (jx da 13) i = if i = (8 * o + n).toNat then r else gI σ (jx da 13) i) : VsI jx da σ' o (n + 1) := fun k a b => by
  rw [e13]
  by_cases q : k = n
  · rw [if_pos (by omega)]; exact hr.same e17 e15 e16
  · rw [if_neg (by omega)]; exact (h k a (by omega)).same e17 e15 e16
theorem VsA.put {r w : Int} (h : VsA jx da σ o n) (hr : w ≠ 0 → PO jx da σ r) (ho : 0 ≤ o) (hn : 0 ≤ n) (e17 : gI σ' da 17 = gI σ da 17) (e15 : gI σ' (jx da 15) = gI σ (jx da 15)) (e16 : gJ σ' (jx da 16) = gJ σ (jx da 16)) (e13 : ∀ i : Nat, gI σ' (jx da 13) i = if i = (8 * o + n).toNat then r else gI σ (jx da 13) i) (e14 : ∀ i : Nat, gI σ' (jx da 14) i = if i = (8 * o + n).toNat then w else gI σ (jx da 14) i) : VsA jx da σ' o (n + 1) := fun k a b => by
  rw [e13, e14]
  by_cases q : k = n
  · rw [if_pos (by omega), if_pos (by omega)]; exact fun c => (hr c).same e17 e15 e16
  · rw [if_neg (by omega), if_neg (by omega)]; exact fun c => (h k a (by omega) c).same e17 e15 e16
end VS


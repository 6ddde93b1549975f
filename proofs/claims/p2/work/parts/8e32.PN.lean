set_option maxHeartbeats 1000000 in
theorem s_X16_choice {ra : Nat → Nat} {jx : Nat → Nat → Nat} {rm : Nat} {n : Nat} {da : Nat} {o : Int} {dp : Int → Int} {ex : Int → Prop} (g : Geo ra jx rm) {σ : Sg} {v1 : Int} (rσ : Rg ra jx rm σ) (hps : PsI rm σ) (hd : gP σ rm 18 = some da) (hda : da = ra 15 ∨ da = ra 16) (h1 : 0 ≤ v1 ∧ v1 < 16) (hN : 0 ≤ gI σ da 17 ∧ gI σ da 17 ≤ 4 * cn rm σ) (hpg : PgI jx da σ dp ex) (hdp : 0 ≤ dp (gI σ da 17) ∧ dp (gI σ da 17) ≤ 3 * gI σ rm 19 + 0) (hex : ∀ pc, gI σ da 17 ≤ pc → ¬ ex pc) (hfu : 7 * (11 - gI σ rm 19) - 0 ≤ (n : Int) + 1) (ih0 : ∀ {da : Nat} {o : Int} {dp : Int → Int} {ex : Int → Prop} (_ : Geo ra jx rm) {σ : Sg} {v1 : Int} (_ : Rg ra jx rm σ) (_ : PsI rm σ) (_ : gP σ rm 18 = some da) (_ : da = ra 15 ∨ da = ra 16) (_ : 0 ≤ v1 ∧ v1 < 16) (_ : 0 ≤ gI σ da 17 ∧ gI σ da 17 ≤ 4 * cn rm σ) (_ : PgI jx da σ dp ex) (_ : 0 ≤ dp (gI σ da 17) ∧ dp (gI σ da 17) ≤ 3 * gI σ rm 19 + 0) (_ : ∀ pc, gI σ da 17 ≤ pc → ¬ ex pc) (_ : 7 * (11 - gI σ rm 19) - 0 ≤ (n : Int)) {Q : Sg → Unit → Prop} {X : Sg → String → Prop} (_ : ∀ (σ' : Sg) (r : Unit), Rg ra jx rm σ' → FdO ra jx rm da o [15, 16] [4, 5, 7, 8, 9, 10, 11, 12, 13, 19] [15, 16] σ σ' → ((∃ dq : Int → Int, (∀ pc, pc ≤ gI σ da 17 → dq pc = dp pc) ∧ PgI jx da σ' dq ex ∧ dq (gI σ' da 17) = dp (gI σ da 17) + 1) ∧ PsI rm σ' ∧ gI σ' da 17 - 4 * cn rm σ' ≤ gI σ da 17 - 4 * cn rm σ ∧ gI σ' rm 19 = gI σ rm 19 ∧ gI σ da 17 < gI σ' da 17 ∧ (∀ k, k ≠ 17 → gI σ' da k = gI σ da k)) → Q σ' r) (_ : ∀ (σ' : Sg) (E : String), Rg ra jx rm σ' → FdO ra jx rm da o [15, 16] [4, 5, 7, 8, 9, 10, 11, 12, 13, 19] [15, 16] σ σ' → (E = "StreamHouseModel$Fault") → X σ' E), wrec ra jx rm n 0 v1 σ Q X) (ih1 : ∀ {da : Nat} {o : Int} {dp : Int → Int} {ex : Int → Prop} (_ : Geo ra jx rm) {σ : Sg} {v1 : Int} (_ : Rg ra jx rm σ) (_ : PsI rm σ) (_ : gP σ rm 18 = some da) (_ : da = ra 15 ∨ da = ra 16) (_ : 0 ≤ v1 ∧ v1 < 16) (_ : 0 ≤ gI σ da 17 ∧ gI σ da 17 ≤ 4 * cn rm σ) (_ : PgI jx da σ dp ex) (_ : 0 ≤ dp (gI σ da 17) ∧ dp (gI σ da 17) ≤ 3 * gI σ rm 19 + 0) (_ : ∀ pc, gI σ da 17 ≤ pc → ¬ ex pc) (_ : 7 * (11 - gI σ rm 19) - 1 ≤ (n : Int)) {Q : Sg → Unit → Prop} {X : Sg → String → Prop} (_ : ∀ (σ' : Sg) (r : Unit), Rg ra jx rm σ' → FdO ra jx rm da o [15, 16] [4, 5, 7, 8, 9, 10, 11, 12, 13, 19] [15, 16] σ σ' → ((∃ dq : Int → Int, (∀ pc, pc ≤ gI σ da 17 → dq pc = dp pc) ∧ PgI jx da σ' dq ex ∧ dq (gI σ' da 17) = dp (gI σ da 17) + 1) ∧ PsI rm σ' ∧ gI σ' da 17 - 4 * cn rm σ' ≤ gI σ da 17 - 4 * cn rm σ ∧ gI σ' rm 19 = gI σ rm 19 ∧ gI σ da 17 < gI σ' da 17 ∧ (∀ k, k ≠ 17 → gI σ' da k = gI σ da k)) → Q σ' r) (_ : ∀ (σ' : Sg) (E : String), Rg ra jx rm σ' → FdO ra jx rm da o [15, 16] [4, 5, 7, 8, 9, 10, 11, 12, 13, 19] [15, 16] σ σ' → (E = "StreamHouseModel$Fault") → X σ' E), wrec ra jx rm n 1 v1 σ Q X) (ih2 : ∀ {da : Nat} {o : Int} {dp : Int → Int} {ex : Int → Prop} (_ : Geo ra jx rm) {σ : Sg} {v1 : Int} (_ : Rg ra jx rm σ) (_ : PsI rm σ) (_ : gP σ rm 18 = some da) (_ : da = ra 15 ∨ da = ra 16) (_ : 0 ≤ v1 ∧ v1 < 16) (_ : 0 ≤ gI σ da 17 ∧ gI σ da 17 ≤ 4 * cn rm σ) (_ : PgI jx da σ dp ex) (_ : 0 ≤ dp (gI σ da 17) ∧ dp (gI σ da 17) ≤ 3 * gI σ rm 19 + 0) (_ : ∀ pc, gI σ da 17 ≤ pc → ¬ ex pc) (_ : 7 * (11 - gI σ rm 19) - 2 ≤ (n : Int)) {Q : Sg → Unit → Prop} {X : Sg → String → Prop} (_ : ∀ (σ' : Sg) (r : Unit), Rg ra jx rm σ' → FdO ra jx rm da o [15, 16] [4, 5, 7, 8, 9, 10, 11, 12, 13, 19] [15, 16] σ σ' → ((∃ dq : Int → Int, (∀ pc, pc ≤ gI σ da 17 → dq pc = dp pc) ∧ PgI jx da σ' dq ex ∧ dq (gI σ' da 17) = dp (gI σ da 17) + 1) ∧ PsI rm σ' ∧ gI σ' da 17 - 4 * cn rm σ' ≤ gI σ da 17 - 4 * cn rm σ ∧ gI σ' rm 19 = gI σ rm 19 ∧ gI σ da 17 < gI σ' da 17 ∧ (∀ k, k ≠ 17 → gI σ' da k = gI σ da k)) → Q σ' r) (_ : ∀ (σ' : Sg) (E : String), Rg ra jx rm σ' → FdO ra jx rm da o [15, 16] [4, 5, 7, 8, 9, 10, 11, 12, 13, 19] [15, 16] σ σ' → (E = "StreamHouseModel$Fault") → X σ' E), wrec ra jx rm n 2 v1 σ Q X) (ih3 : ∀ {da : Nat} {o : Int} {dp : Int → Int} {ex : Int → Prop} (_ : Geo ra jx rm) {σ : Sg} {v1 : Int} (_ : Rg ra jx rm σ) (_ : PsI rm σ) (_ : gP σ rm 18 = some da) (_ : da = ra 15 ∨ da = ra 16) (_ : 0 ≤ v1 ∧ v1 < 16) (_ : 0 ≤ gI σ da 17 ∧ gI σ da 17 ≤ 4 * cn rm σ) (_ : PgI jx da σ dp ex) (_ : 0 ≤ dp (gI σ da 17) ∧ dp (gI σ da 17) ≤ 3 * gI σ rm 19 + 0) (_ : ∀ pc, gI σ da 17 ≤ pc → ¬ ex pc) (_ : 7 * (11 - gI σ rm 19) - 3 ≤ (n : Int)) {Q : Sg → Unit → Prop} {X : Sg → String → Prop} (_ : ∀ (σ' : Sg) (r : Unit), Rg ra jx rm σ' → FdO ra jx rm da o [15, 16] [4, 5, 7, 8, 9, 10, 11, 12, 13, 19] [15, 16] σ σ' → ((∃ dq : Int → Int, (∀ pc, pc ≤ gI σ da 17 → dq pc = dp pc) ∧ PgI jx da σ' dq ex ∧ dq (gI σ' da 17) = dp (gI σ da 17) + 1) ∧ PsI rm σ' ∧ gI σ' da 17 - 4 * cn rm σ' ≤ gI σ da 17 - 4 * cn rm σ ∧ gI σ' rm 19 = gI σ rm 19 ∧ gI σ da 17 < gI σ' da 17 ∧ (∀ k, k ≠ 17 → gI σ' da k = gI σ da k)) → Q σ' r) (_ : ∀ (σ' : Sg) (E : String), Rg ra jx rm σ' → FdO ra jx rm da o [15, 16] [4, 5, 7, 8, 9, 10, 11, 12, 13, 19] [15, 16] σ σ' → (E = "StreamHouseModel$Fault") → X σ' E), wrec ra jx rm n 3 v1 σ Q X) (ih4 : ∀ {da : Nat} {o : Int} {dp : Int → Int} {ex : Int → Prop} (_ : Geo ra jx rm) {σ : Sg} {v1 : Int} (_ : Rg ra jx rm σ) (_ : PsI rm σ) (_ : gP σ rm 18 = some da) (_ : da = ra 15 ∨ da = ra 16) (_ : 0 ≤ v1 ∧ v1 < 16) (_ : 0 ≤ gI σ da 17 ∧ gI σ da 17 ≤ 4 * cn rm σ) (_ : PgI jx da σ dp ex) (_ : 0 ≤ dp (gI σ da 17) ∧ dp (gI σ da 17) ≤ 3 * gI σ rm 19 + 1) (_ : ∀ pc, gI σ da 17 ≤ pc → ¬ ex pc) (_ : 7 * (11 - gI σ rm 19) - 4 ≤ (n : Int)) {Q : Sg → Unit → Prop} {X : Sg → String → Prop} (_ : ∀ (σ' : Sg) (r : Unit), Rg ra jx rm σ' → FdO ra jx rm da o [15, 16] [4, 5, 7, 8, 9, 10, 11, 12, 13, 19] [15, 16] σ σ' → ((∃ dq : Int → Int, (∀ pc, pc ≤ gI σ da 17 → dq pc = dp pc) ∧ PgI jx da σ' dq ex ∧ dq (gI σ' da 17) = dp (gI σ da 17) + 1) ∧ PsI rm σ' ∧ gI σ' da 17 - 4 * cn rm σ' ≤ gI σ da 17 - 4 * cn rm σ ∧ gI σ' rm 19 = gI σ rm 19 ∧ gI σ da 17 < gI σ' da 17 ∧ (∀ k, k ≠ 17 → gI σ' da k = gI σ da k)) → Q σ' r) (_ : ∀ (σ' : Sg) (E : String), Rg ra jx rm σ' → FdO ra jx rm da o [15, 16] [4, 5, 7, 8, 9, 10, 11, 12, 13, 19] [15, 16] σ σ' → (E = "StreamHouseModel$Fault") → X σ' E), wrec ra jx rm n 4 v1 σ Q X) (ih5 : ∀ {da : Nat} {o : Int} {dp : Int → Int} {ex : Int → Prop} (_ : Geo ra jx rm) {σ : Sg} {v1 : Int} (_ : Rg ra jx rm σ) (_ : PsI rm σ) (_ : gP σ rm 18 = some da) (_ : da = ra 15 ∨ da = ra 16) (_ : 0 ≤ v1 ∧ v1 < 16) (_ : 0 ≤ gI σ da 17 ∧ gI σ da 17 ≤ 4 * cn rm σ) (_ : PgI jx da σ dp ex) (_ : 0 ≤ dp (gI σ da 17) ∧ dp (gI σ da 17) ≤ 3 * gI σ rm 19 + 2) (_ : ∀ pc, gI σ da 17 ≤ pc → ¬ ex pc) (_ : 7 * (11 - gI σ rm 19) - 5 ≤ (n : Int)) {Q : Sg → Unit → Prop} {X : Sg → String → Prop} (_ : ∀ (σ' : Sg) (r : Unit), Rg ra jx rm σ' → FdO ra jx rm da o [15, 16] [4, 5, 7, 8, 9, 10, 11, 12, 13, 19] [15, 16] σ σ' → ((∃ dq : Int → Int, (∀ pc, pc ≤ gI σ da 17 → dq pc = dp pc) ∧ PgI jx da σ' dq ex ∧ dq (gI σ' da 17) = dp (gI σ da 17) + 1) ∧ PsI rm σ' ∧ gI σ' da 17 - 4 * cn rm σ' ≤ gI σ da 17 - 4 * cn rm σ ∧ gI σ' rm 19 = gI σ rm 19 ∧ gI σ da 17 < gI σ' da 17 ∧ (∀ k, k ≠ 17 → gI σ' da k = gI σ da k)) → Q σ' r) (_ : ∀ (σ' : Sg) (E : String), Rg ra jx rm σ' → FdO ra jx rm da o [15, 16] [4, 5, 7, 8, 9, 10, 11, 12, 13, 19] [15, 16] σ σ' → (E = "StreamHouseModel$Fault") → X σ' E), wrec ra jx rm n 5 v1 σ Q X) (ih6 : ∀ {da : Nat} {o : Int} {dp : Int → Int} {ex : Int → Prop} (_ : Geo ra jx rm) {σ : Sg} {v1 : Int} (_ : Rg ra jx rm σ) (_ : PsI rm σ) (_ : gP σ rm 18 = some da) (_ : da = ra 15 ∨ da = ra 16) (_ : 0 ≤ v1 ∧ v1 < 16) (_ : 0 ≤ gI σ da 17 ∧ gI σ da 17 ≤ 4 * cn rm σ) (_ : PgI jx da σ dp ex) (_ : 0 ≤ dp (gI σ da 17) ∧ dp (gI σ da 17) ≤ 3 * gI σ rm 19 + 3) (_ : ∀ pc, gI σ da 17 ≤ pc → ¬ ex pc) (_ : 7 * (11 - gI σ rm 19) - 6 ≤ (n : Int)) {Q : Sg → Unit → Prop} {X : Sg → String → Prop} (_ : ∀ (σ' : Sg) (r : Unit), Rg ra jx rm σ' → FdO ra jx rm da o [15, 16] [4, 5, 7, 8, 9, 10, 11, 12, 13, 19] [15, 16] σ σ' → ((∃ dq : Int → Int, (∀ pc, pc ≤ gI σ da 17 → dq pc = dp pc) ∧ PgI jx da σ' dq ex ∧ dq (gI σ' da 17) = dp (gI σ da 17) + 1) ∧ PsI rm σ' ∧ gI σ' da 17 - 4 * cn rm σ' ≤ gI σ da 17 - 4 * cn rm σ ∧ gI σ' rm 19 = gI σ rm 19 ∧ gI σ da 17 < gI σ' da 17 ∧ (∀ k, k ≠ 17 → gI σ' da k = gI σ da k)) → Q σ' r) (_ : ∀ (σ' : Sg) (E : String), Rg ra jx rm σ' → FdO ra jx rm da o [15, 16] [4, 5, 7, 8, 9, 10, 11, 12, 13, 19] [15, 16] σ σ' → (E = "StreamHouseModel$Fault") → X σ' E), wrec ra jx rm n 6 v1 σ Q X) {Q : Sg → Unit → Prop} {X : Sg → String → Prop} (hQ : ∀ (σ' : Sg) (r : Unit), Rg ra jx rm σ' → FdO ra jx rm da o [15, 16] [4, 5, 7, 8, 9, 10, 11, 12, 13, 19] [15, 16] σ σ' → ((∃ dq : Int → Int, (∀ pc, pc ≤ gI σ da 17 → dq pc = dp pc) ∧ PgI jx da σ' dq ex ∧ dq (gI σ' da 17) = dp (gI σ da 17) + 1) ∧ PsI rm σ' ∧ gI σ' da 17 - 4 * cn rm σ' ≤ gI σ da 17 - 4 * cn rm σ ∧ gI σ' rm 19 = gI σ rm 19 ∧ gI σ da 17 < gI σ' da 17 ∧ (∀ k, k ≠ 17 → gI σ' da k = gI σ da k)) → Q σ' r) (hX : ∀ (σ' : Sg) (E : String), Rg ra jx rm σ' → FdO ra jx rm da o [15, 16] [4, 5, 7, 8, 9, 10, 11, 12, 13, 19] [15, 16] σ σ' → (E = "StreamHouseModel$Fault") → X σ' E) : w_X16_choice_0 ra jx rm (wrec ra jx rm n) Q X σ v1 := by
  obtain ⟨g1, g2, g3, g4, g5, g6, g7, g8⟩ := id g
  have fσ : FdO ra jx rm da o [15, 16] [4, 5, 7, 8, 9, 10, 11, 12, 13, 19] [15, 16] σ σ := FdO.rf
  have hdm : ¬ da = rm := by rcases hda with q | q <;> rw [q] <;> exact g2 _
  have hmd : ¬ rm = da := fun q => hdm q.symm
  have hdj : ∀ a k, ¬ da = jx a k := fun a k => by rcases hda with q | q <;> rw [q] <;> exact g5 a k _
  have hjd : ∀ a k, ¬ jx a k = da := fun a k => by rcases hda with q | q <;> rw [q] <;> exact g4 a k _
  have q06 := rσ.2.1 6; simp only [rgS] at q06
  have q19 := rσ.2.1 19; simp only [rgS] at q19
  have ps9 := hps; have pg9 := hpg
  have okk : ∀ k, k ≠ 17 → gI σ da k = gI σ da k := fun _ _ => rfl
  have le6 := PsI.le hps
  unfold w_X16_choice_0
  try simp only [forall_eq, rII, rIJ, rIP, rJJ, rJI, rJP, rPP, rPI, rPJ, g1, g2, g3, g4, g5, g6, g7, g8, Nat.reduceEqDiff, Nat.reduceAdd, false_and, and_false, true_and, and_true, reduceIte, nZ0, nZ1, hdm, hmd, hdj, hjd]
  refine ih1 (o := o) (dp := dp) (ex := ex) g rσ (by exact ps9) (by (try simp only [rII, rIJ, rIP, rJJ, rJI, rJP, rPP, rPI, rPJ, g1, g2, g3, g4, g5, g6, g7, g8, Nat.reduceEqDiff, Nat.reduceAdd, false_and, and_false, true_and, and_true, reduceIte, nZ0, nZ1, hdm, hmd, hdj, hjd]) <;> first | exact hd | (rw [fσ.2.2.2.1 (by decide)]; exact hd)) hda h1 (by (try simp only [rII, rIJ, rIP, rJJ, rJI, rJP, rPP, rPI, rPJ, g1, g2, g3, g4, g5, g6, g7, g8, Nat.reduceEqDiff, Nat.reduceAdd, false_and, and_false, true_and, and_true, reduceIte, nZ0, nZ1, hdm, hmd, hdj, hjd]) <;> omega) (by exact pg9) (by (try simp only [rII, rIJ, rIP, rJJ, rJI, rJP, rPP, rPI, rPJ, g1, g2, g3, g4, g5, g6, g7, g8, Nat.reduceEqDiff, Nat.reduceAdd, false_and, and_false, true_and, and_true, reduceIte, nZ0, nZ1, hdm, hmd, hdj, hjd]) <;> omega) (by (try simp only [rII, rIJ, rIP, rJJ, rJI, rJP, rPP, rPI, rPJ, g1, g2, g3, g4, g5, g6, g7, g8, Nat.reduceEqDiff, Nat.reduceAdd, false_and, and_false, true_and, and_true, reduceIte, nZ0, nZ1, hdm, hmd, hdj, hjd]) <;> exact fun pc hp => hex pc (by omega)) (by (try simp only [rII, rIJ, rIP, rJJ, rJI, rJP, rPP, rPI, rPJ, g1, g2, g3, g4, g5, g6, g7, g8, Nat.reduceEqDiff, Nat.reduceAdd, false_and, and_false, true_and, and_true, reduceIte, nZ0, nZ1, hdm, hmd, hdj, hjd]) <;> omega) (fun σ47 _ rσ47 fc p1 => ?_) (fun σx E rx fx px => hX _ _ rx (FdO.tr fσ (FdO.mor (fx) (by decide) (by decide) (by decide))) px)
  have fσ47 : FdO ra jx rm da o [15, 16] [4, 5, 7, 8, 9, 10, 11, 12, 13, 19] [15, 16] σ σ47 := FdO.tr fσ (FdO.mor (fc) (by decide) (by decide) (by decide))
  obtain ⟨⟨dq9, ag9, pg9, de9⟩, ps9, cq9, n19, nl9, ok9⟩ := p1
  have okk : ∀ k, k ≠ 17 → gI σ47 da k = gI σ da k := fun k hk => (ok9 k hk).trans (by (try simp only [rII, rIJ, rIP, rJJ, rJI, rJP, rPP, rPI, rPJ, g1, g2, g3, g4, g5, g6, g7, g8, Nat.reduceEqDiff, Nat.reduceAdd, false_and, and_false, true_and, and_true, reduceIte, nZ0, nZ1, hdm, hmd, hdj, hjd]) <;> exact okk k hk)
  (try simp only [rII, rIJ, rIP, rJJ, rJI, rJP, rPP, rPI, rPJ, g1, g2, g3, g4, g5, g6, g7, g8, Nat.reduceEqDiff, Nat.reduceAdd, false_and, and_false, true_and, and_true, reduceIte, nZ0, nZ1, hdm, hmd, hdj, hjd] at cq9 n19 nl9 ag9 de9)
  have eo9 : gI σ da 17 = gI σ da 17 := by omega
  (try rw [eo9] at de9)
  have ag9 : ∀ pc, pc ≤ gI σ da 17 → dq9 pc = dp pc := fun pc hp => ag9 pc (by omega)
  have le6 := PsI.le ps9
  have s6n := (fσ47.2.1 6 (by decide)).1
  have sσ47_6 := fσ47.2.1 6 (by decide)
  have pσ47 := fσ47.2.2.2.1 (by decide)
  try simp only [rII, rIJ, rIP, rJJ, rJI, rJP, rPP, rPI, rPJ, g1, g2, g3, g4, g5, g6, g7, g8, Nat.reduceEqDiff, Nat.reduceAdd, false_and, and_false, true_and, and_true, reduceIte, nZ0, nZ1, hdm, hmd, hdj, hjd, sσ47_6.1, sσ47_6.2, pσ47] at p1
  try simp only [forall_eq, rII, rIJ, rIP, rJJ, rJI, rJP, rPP, rPI, rPJ, g1, g2, g3, g4, g5, g6, g7, g8, Nat.reduceEqDiff, Nat.reduceAdd, false_and, and_false, true_and, and_true, reduceIte, nZ0, nZ1, hdm, hmd, hdj, hjd, sσ47_6.1, sσ47_6.2, pσ47]
  refine s2_X16_see g rσ47 (by exact ps9) (fun σ48 _ rσ48 fc p2 => ?_) (fun σx E rx fx px => hX _ _ rx (FdO.tr fσ47 (FdO.mor (Fr.d fx hda (by decide)) (by decide) (by decide) (by decide))) px)
  have fσ48 : FdO ra jx rm da o [15, 16] [4, 5, 7, 8, 9, 10, 11, 12, 13, 19] [15, 16] σ σ48 := FdO.tr fσ47 (FdO.mor (Fr.d fc hda (by decide)) (by decide) (by decide) (by decide))
  have cσ48_19 := fc.2.1 19 (by decide)
  have gσ48_16 := fun a => fc.2.2.1 a 16
  have ps9 := p2.1; have cq9 := p2.2
  have pg9 := PgI.fr pg9 hda fc (by decide)
  have n17 := congrFun (Fr.ob fc hda (by decide)) 17
  (try simp only [rII, rIJ, rIP, rJJ, rJI, rJP, rPP, rPI, rPJ, g1, g2, g3, g4, g5, g6, g7, g8, Nat.reduceEqDiff, Nat.reduceAdd, false_and, and_false, true_and, and_true, reduceIte, nZ0, nZ1, hdm, hmd, hdj, hjd, sσ47_6.1, sσ47_6.2, pσ47] at n17)
  have okk : ∀ k, k ≠ 17 → gI σ48 da k = gI σ da k := fun k hk => (congrFun (Fr.ob fc hda (by decide)) k).trans (by (try simp only [rII, rIJ, rIP, rJJ, rJI, rJP, rPP, rPI, rPJ, g1, g2, g3, g4, g5, g6, g7, g8, Nat.reduceEqDiff, Nat.reduceAdd, false_and, and_false, true_and, and_true, reduceIte, nZ0, nZ1, hdm, hmd, hdj, hjd, sσ47_6.1, sσ47_6.2, pσ47]) <;> exact okk k hk)
  have n19 := (fc.2.1 19 (by decide)).1
  (try simp only [rII, rIJ, rIP, rJJ, rJI, rJP, rPP, rPI, rPJ, g1, g2, g3, g4, g5, g6, g7, g8, Nat.reduceEqDiff, Nat.reduceAdd, false_and, and_false, true_and, and_true, reduceIte, nZ0, nZ1, hdm, hmd, hdj, hjd, sσ47_6.1, sσ47_6.2, pσ47] at n19)
  have le6 := PsI.le ps9
  have s6n := (fσ48.2.1 6 (by decide)).1
  have ded : dq9 (gI σ48 da 17) = dp (gI σ da 17) + 1 := by rw [n17]; exact de9
  have de9 := ded
  have sσ48_6 := fσ48.2.1 6 (by decide)
  have pσ48 := fσ48.2.2.2.1 (by decide)
  try simp only [rII, rIJ, rIP, rJJ, rJI, rJP, rPP, rPI, rPJ, g1, g2, g3, g4, g5, g6, g7, g8, Nat.reduceEqDiff, Nat.reduceAdd, false_and, and_false, true_and, and_true, reduceIte, nZ0, nZ1, hdm, hmd, hdj, hjd, sσ48_6.1, sσ48_6.2, pσ48, cσ48_19.1, cσ48_19.2, fun a => (gσ48_16 a).1, fun a => (gσ48_16 a).2] at p2
  try simp only [forall_eq, rII, rIJ, rIP, rJJ, rJI, rJP, rPP, rPI, rPJ, g1, g2, g3, g4, g5, g6, g7, g8, Nat.reduceEqDiff, Nat.reduceAdd, false_and, and_false, true_and, and_true, reduceIte, nZ0, nZ1, hdm, hmd, hdj, hjd, sσ48_6.1, sσ48_6.2, pσ48, cσ48_19.1, cσ48_19.2, fun a => (gσ48_16 a).1, fun a => (gσ48_16 a).2]
  have q3 := rσ48.2.1 9; simp only [rgS, hdm, hmd, hdj, hjd] at q3
  split
  · rename_i hc15
    skip
    unfold w_X16_choice_19
    try simp only [forall_eq, rII, rIJ, rIP, rJJ, rJI, rJP, rPP, rPI, rPJ, g1, g2, g3, g4, g5, g6, g7, g8, Nat.reduceEqDiff, Nat.reduceAdd, false_and, and_false, true_and, and_true, reduceIte, nZ0, nZ1, hdm, hmd, hdj, hjd, sσ48_6.1, sσ48_6.2, pσ48, cσ48_19.1, cσ48_19.2, fun a => (gσ48_16 a).1, fun a => (gσ48_16 a).2]
    refine s2_X16_opens g rσ48 (by exact ps9) (by omega) (by omega) (fun σ49 _ rσ49 fc p4 => ?_) (fun σx E rx fx px => hX _ _ rx (FdO.tr fσ48 (FdO.mor (Fr.d fx hda (by decide)) (by decide) (by decide) (by decide))) px)
    have fσ49 : FdO ra jx rm da o [15, 16] [4, 5, 7, 8, 9, 10, 11, 12, 13, 19] [15, 16] σ σ49 := FdO.tr fσ48 (FdO.mor (Fr.d fc hda (by decide)) (by decide) (by decide) (by decide))
    have cσ49_9 := fc.2.1 9 (by decide)
    have gσ49_16 := fun a => fc.2.2.1 a 16
    have ps9 := p4.1; have cq9 := p4.2
    have pg9 := PgI.fr pg9 hda fc (by decide)
    have n17 := congrFun (Fr.ob fc hda (by decide)) 17
    (try simp only [rII, rIJ, rIP, rJJ, rJI, rJP, rPP, rPI, rPJ, g1, g2, g3, g4, g5, g6, g7, g8, Nat.reduceEqDiff, Nat.reduceAdd, false_and, and_false, true_and, and_true, reduceIte, nZ0, nZ1, hdm, hmd, hdj, hjd, sσ48_6.1, sσ48_6.2, pσ48, cσ48_19.1, cσ48_19.2, fun a => (gσ48_16 a).1, fun a => (gσ48_16 a).2] at n17)
    have okk : ∀ k, k ≠ 17 → gI σ49 da k = gI σ da k := fun k hk => (congrFun (Fr.ob fc hda (by decide)) k).trans (by (try simp only [rII, rIJ, rIP, rJJ, rJI, rJP, rPP, rPI, rPJ, g1, g2, g3, g4, g5, g6, g7, g8, Nat.reduceEqDiff, Nat.reduceAdd, false_and, and_false, true_and, and_true, reduceIte, nZ0, nZ1, hdm, hmd, hdj, hjd, sσ48_6.1, sσ48_6.2, pσ48, cσ48_19.1, cσ48_19.2, fun a => (gσ48_16 a).1, fun a => (gσ48_16 a).2]) <;> exact okk k hk)
    have le6 := PsI.le ps9
    have s6n := (fσ49.2.1 6 (by decide)).1
    have ded : dq9 (gI σ49 da 17) = dp (gI σ da 17) + 1 := by rw [n17]; exact de9
    have de9 := ded
    have sσ49_6 := fσ49.2.1 6 (by decide)
    have pσ49 := fσ49.2.2.2.1 (by decide)
    try simp only [rII, rIJ, rIP, rJJ, rJI, rJP, rPP, rPI, rPJ, g1, g2, g3, g4, g5, g6, g7, g8, Nat.reduceEqDiff, Nat.reduceAdd, false_and, and_false, true_and, and_true, reduceIte, nZ0, nZ1, hdm, hmd, hdj, hjd, sσ49_6.1, sσ49_6.2, pσ49, cσ48_19.1, cσ48_19.2, fun a => (gσ48_16 a).1, fun a => (gσ48_16 a).2, cσ49_9.1, cσ49_9.2, fun a => (gσ49_16 a).1, fun a => (gσ49_16 a).2] at p4
    try simp only [forall_eq, rII, rIJ, rIP, rJJ, rJI, rJP, rPP, rPI, rPJ, g1, g2, g3, g4, g5, g6, g7, g8, Nat.reduceEqDiff, Nat.reduceAdd, false_and, and_false, true_and, and_true, reduceIte, nZ0, nZ1, hdm, hmd, hdj, hjd, sσ49_6.1, sσ49_6.2, pσ49, cσ48_19.1, cσ48_19.2, fun a => (gσ48_16 a).1, fun a => (gσ48_16 a).2, cσ49_9.1, cσ49_9.2, fun a => (gσ49_16 a).1, fun a => (gσ49_16 a).2]
    refine ⟨da, by exact hd, hda, ?_⟩
    refine s2_X15_step (o := o) g rσ49 hda (by omega) (by omega) (fun σ51 r52 rσ51 fc p5 => ?_)
    have fσ51 : FdO ra jx rm da o [15, 16] [4, 5, 7, 8, 9, 10, 11, 12, 13, 19] [15, 16] σ σ51 := FdO.tr fσ49 (FdO.mor (fc) (by decide) (by decide) (by decide))
    have cσ51_8 := fc.2.1 8 (by decide)
    have cσ51_9 := fc.2.1 9 (by decide)
    have cσ51_19 := fc.2.1 19 (by decide)
    have A0 := p5.1; have A1 := p5.2.1; have A2 := p5.2.2.1; have A3 := p5.2.2.2.1
    have okk : ∀ k, k ≠ 17 → gI σ51 da k = gI σ da k := fun k hk => (p5.2.2.2.2 k hk).trans (okk k hk)
    have pf9 := PsI.frj ps9 (FdO.fj fc) (by decide)
    have ps9 := pf9.1; have cq9 := pf9.2
    clear pf9 p5
    have n19 := (fc.2.1 19 (by decide)).1
    have le6 := PsI.le ps9
    have s6n := (fσ51.2.1 6 (by decide)).1
    have hd9 : 0 ≤ dp (gI σ da 17) ∧ dp (gI σ da 17) ≤ 100 := by omega
    have hNp : 0 ≤ gI σ49 da 17 := by omega
    obtain ⟨dqB, agB, pg9, deB⟩ := PgI.pendE (dp (gI σ da 17)) pg9 hNp A1 A2 A3
    have sσ51_6 := fσ51.2.1 6 (by decide)
    have pσ51 := fσ51.2.2.2.1 (by decide)
    try simp only [rII, rIJ, rIP, rJJ, rJI, rJP, rPP, rPI, rPJ, g1, g2, g3, g4, g5, g6, g7, g8, Nat.reduceEqDiff, Nat.reduceAdd, false_and, and_false, true_and, and_true, reduceIte, nZ0, nZ1, hdm, hmd, hdj, hjd, sσ51_6.1, sσ51_6.2, pσ51, cσ48_19.1, cσ48_19.2, fun a => (gσ48_16 a).1, fun a => (gσ48_16 a).2, cσ49_9.1, cσ49_9.2, fun a => (gσ49_16 a).1, fun a => (gσ49_16 a).2, cσ51_8.1, cσ51_8.2, cσ51_9.1, cσ51_9.2, cσ51_19.1, cσ51_19.2] at p5
    try simp only [forall_eq, rII, rIJ, rIP, rJJ, rJI, rJP, rPP, rPI, rPJ, g1, g2, g3, g4, g5, g6, g7, g8, Nat.reduceEqDiff, Nat.reduceAdd, false_and, and_false, true_and, and_true, reduceIte, nZ0, nZ1, hdm, hmd, hdj, hjd, sσ51_6.1, sσ51_6.2, pσ51, cσ48_19.1, cσ48_19.2, fun a => (gσ48_16 a).1, fun a => (gσ48_16 a).2, cσ49_9.1, cσ49_9.2, fun a => (gσ49_16 a).1, fun a => (gσ49_16 a).2, cσ51_8.1, cσ51_8.2, cσ51_9.1, cσ51_9.2, cσ51_19.1, cσ51_19.2]
    refine ih0 (o := o) (dp := dqB) (ex := fun pc => ex pc ∨ pc = gI σ49 da 17) g rσ51 (by exact ps9) (by (try simp only [rII, rIJ, rIP, rJJ, rJI, rJP, rPP, rPI, rPJ, g1, g2, g3, g4, g5, g6, g7, g8, Nat.reduceEqDiff, Nat.reduceAdd, false_and, and_false, true_and, and_true, reduceIte, nZ0, nZ1, hdm, hmd, hdj, hjd, sσ51_6.1, sσ51_6.2, pσ51, cσ48_19.1, cσ48_19.2, fun a => (gσ48_16 a).1, fun a => (gσ48_16 a).2, cσ49_9.1, cσ49_9.2, fun a => (gσ49_16 a).1, fun a => (gσ49_16 a).2, cσ51_8.1, cσ51_8.2, cσ51_9.1, cσ51_9.2, cσ51_19.1, cσ51_19.2]) <;> first | exact hd | (rw [fσ51.2.2.2.1 (by decide)]; exact hd)) hda h1 (by (try simp only [rII, rIJ, rIP, rJJ, rJI, rJP, rPP, rPI, rPJ, g1, g2, g3, g4, g5, g6, g7, g8, Nat.reduceEqDiff, Nat.reduceAdd, false_and, and_false, true_and, and_true, reduceIte, nZ0, nZ1, hdm, hmd, hdj, hjd, sσ51_6.1, sσ51_6.2, pσ51, cσ48_19.1, cσ48_19.2, fun a => (gσ48_16 a).1, fun a => (gσ48_16 a).2, cσ49_9.1, cσ49_9.2, fun a => (gσ49_16 a).1, fun a => (gσ49_16 a).2, cσ51_8.1, cσ51_8.2, cσ51_9.1, cσ51_9.2, cσ51_19.1, cσ51_19.2]) <;> omega) (by exact pg9) (by (try simp only [rII, rIJ, rIP, rJJ, rJI, rJP, rPP, rPI, rPJ, g1, g2, g3, g4, g5, g6, g7, g8, Nat.reduceEqDiff, Nat.reduceAdd, false_and, and_false, true_and, and_true, reduceIte, nZ0, nZ1, hdm, hmd, hdj, hjd, sσ51_6.1, sσ51_6.2, pσ51, cσ48_19.1, cσ48_19.2, fun a => (gσ48_16 a).1, fun a => (gσ48_16 a).2, cσ49_9.1, cσ49_9.2, fun a => (gσ49_16 a).1, fun a => (gσ49_16 a).2, cσ51_8.1, cσ51_8.2, cσ51_9.1, cσ51_9.2, cσ51_19.1, cσ51_19.2]) <;> omega) (by (try simp only [rII, rIJ, rIP, rJJ, rJI, rJP, rPP, rPI, rPJ, g1, g2, g3, g4, g5, g6, g7, g8, Nat.reduceEqDiff, Nat.reduceAdd, false_and, and_false, true_and, and_true, reduceIte, nZ0, nZ1, hdm, hmd, hdj, hjd, sσ51_6.1, sσ51_6.2, pσ51, cσ48_19.1, cσ48_19.2, fun a => (gσ48_16 a).1, fun a => (gσ48_16 a).2, cσ49_9.1, cσ49_9.2, fun a => (gσ49_16 a).1, fun a => (gσ49_16 a).2, cσ51_8.1, cσ51_8.2, cσ51_9.1, cσ51_9.2, cσ51_19.1, cσ51_19.2]) <;> exact fun pc hp q => q.elim (hex pc (by omega)) (fun z => by omega)) (by (try simp only [rII, rIJ, rIP, rJJ, rJI, rJP, rPP, rPI, rPJ, g1, g2, g3, g4, g5, g6, g7, g8, Nat.reduceEqDiff, Nat.reduceAdd, false_and, and_false, true_and, and_true, reduceIte, nZ0, nZ1, hdm, hmd, hdj, hjd, sσ51_6.1, sσ51_6.2, pσ51, cσ48_19.1, cσ48_19.2, fun a => (gσ48_16 a).1, fun a => (gσ48_16 a).2, cσ49_9.1, cσ49_9.2, fun a => (gσ49_16 a).1, fun a => (gσ49_16 a).2, cσ51_8.1, cσ51_8.2, cσ51_9.1, cσ51_9.2, cσ51_19.1, cσ51_19.2]) <;> omega) (fun σ53 _ rσ53 fc p6 => ?_) (fun σx E rx fx px => hX _ _ rx (FdO.tr fσ51 (FdO.mor (fx) (by decide) (by decide) (by decide))) px)
    have fσ53 : FdO ra jx rm da o [15, 16] [4, 5, 7, 8, 9, 10, 11, 12, 13, 19] [15, 16] σ σ53 := FdO.tr fσ51 (FdO.mor (fc) (by decide) (by decide) (by decide))
    obtain ⟨⟨dqC, agC, pg9, deC⟩, ps9, cq9, n19, nlC, ok9⟩ := p6
    have okk : ∀ k, k ≠ 17 → gI σ53 da k = gI σ da k := fun k hk => (ok9 k hk).trans (okk k hk)
    have sC := (fc.2.2.2.2.2.1 15 (gI σ49 da 17).toNat (by simp only [Jk]; omega)).1
    clear ok9
    have le6 := PsI.le ps9
    have s6n := (fσ53.2.1 6 (by decide)).1
    have sσ53_6 := fσ53.2.1 6 (by decide)
    have pσ53 := fσ53.2.2.2.1 (by decide)
    try simp only [rII, rIJ, rIP, rJJ, rJI, rJP, rPP, rPI, rPJ, g1, g2, g3, g4, g5, g6, g7, g8, Nat.reduceEqDiff, Nat.reduceAdd, false_and, and_false, true_and, and_true, reduceIte, nZ0, nZ1, hdm, hmd, hdj, hjd, sσ53_6.1, sσ53_6.2, pσ53, cσ48_19.1, cσ48_19.2, fun a => (gσ48_16 a).1, fun a => (gσ48_16 a).2, cσ49_9.1, cσ49_9.2, fun a => (gσ49_16 a).1, fun a => (gσ49_16 a).2, cσ51_8.1, cσ51_8.2, cσ51_9.1, cσ51_9.2, cσ51_19.1, cσ51_19.2] at p6
    try simp only [forall_eq, rII, rIJ, rIP, rJJ, rJI, rJP, rPP, rPI, rPJ, g1, g2, g3, g4, g5, g6, g7, g8, Nat.reduceEqDiff, Nat.reduceAdd, false_and, and_false, true_and, and_true, reduceIte, nZ0, nZ1, hdm, hmd, hdj, hjd, sσ53_6.1, sσ53_6.2, pσ53, cσ48_19.1, cσ48_19.2, fun a => (gσ48_16 a).1, fun a => (gσ48_16 a).2, cσ49_9.1, cσ49_9.2, fun a => (gσ49_16 a).1, fun a => (gσ49_16 a).2, cσ51_8.1, cσ51_8.2, cσ51_9.1, cσ51_9.2, cσ51_19.1, cσ51_19.2]
    have q7 := rσ53.2.1 19; simp only [rgS, hdm, hmd, hdj, hjd] at q7
    refine ⟨by (first | omega | with_reducible assumption | (unfold rng; omega) | (unfold rng; (repeat' split) <;> omega) | decide), ?_⟩
    refine s2_X16_see g (by refine Rg.sI g ?_ (by simp only [rgS]; first | with_reducible exact nZ_rng _ | with_reducible exact nB_rng _ | with_reducible exact wr_rng _ | with_reducible exact i32any _ | (first | omega | with_reducible assumption | (unfold rng; omega) | (unfold rng; (repeat' split) <;> omega) | decide)); exact rσ53) (PsI19 ps9) (fun σ55 _ rσ55 fc p8 => ?_) (fun σx E rx fx px => hX _ _ rx (FdO.tr (by refine FdO.sI g ?_ hda (by decide); exact fσ53) (FdO.mor (Fr.d fx hda (by decide)) (by decide) (by decide) (by decide))) px)
    have fσ55 : FdO ra jx rm da o [15, 16] [4, 5, 7, 8, 9, 10, 11, 12, 13, 19] [15, 16] σ σ55 := FdO.tr (by refine FdO.sI g ?_ hda (by decide); exact fσ53) (FdO.mor (Fr.d fc hda (by decide)) (by decide) (by decide) (by decide))
    have cσ55_19 := fc.2.1 19 (by decide)
    have gσ55_16 := fun a => fc.2.2.1 a 16
    have ps9 := p8.1; have cq9 := p8.2
    simp only [cn19] at cq9
    have pg9 := PgI.fr (PgI.fr (K := []) (S := [19]) pg9 hda (by repeat (first | exact Fr.rf | assumption | refine Fr.aJ g ?_ (by decide) | refine Fr.aI g ?_ (by decide) | refine Fr.sI g ?_ (by decide) | refine Fr.sJ g ?_ (by decide))) (by decide)) hda fc (by decide)
    have n17 := congrFun (Fr.ob fc hda (by decide)) 17
    (try simp only [rII, rIJ, rIP, rJJ, rJI, rJP, rPP, rPI, rPJ, g1, g2, g3, g4, g5, g6, g7, g8, Nat.reduceEqDiff, Nat.reduceAdd, false_and, and_false, true_and, and_true, reduceIte, nZ0, nZ1, hdm, hmd, hdj, hjd, sσ53_6.1, sσ53_6.2, pσ53, cσ48_19.1, cσ48_19.2, fun a => (gσ48_16 a).1, fun a => (gσ48_16 a).2, cσ49_9.1, cσ49_9.2, fun a => (gσ49_16 a).1, fun a => (gσ49_16 a).2, cσ51_8.1, cσ51_8.2, cσ51_9.1, cσ51_9.2, cσ51_19.1, cσ51_19.2] at n17)
    have okk : ∀ k, k ≠ 17 → gI σ55 da k = gI σ da k := fun k hk => (congrFun (Fr.ob fc hda (by decide)) k).trans (by (try simp only [rII, rIJ, rIP, rJJ, rJI, rJP, rPP, rPI, rPJ, g1, g2, g3, g4, g5, g6, g7, g8, Nat.reduceEqDiff, Nat.reduceAdd, false_and, and_false, true_and, and_true, reduceIte, nZ0, nZ1, hdm, hmd, hdj, hjd, sσ53_6.1, sσ53_6.2, pσ53, cσ48_19.1, cσ48_19.2, fun a => (gσ48_16 a).1, fun a => (gσ48_16 a).2, cσ49_9.1, cσ49_9.2, fun a => (gσ49_16 a).1, fun a => (gσ49_16 a).2, cσ51_8.1, cσ51_8.2, cσ51_9.1, cσ51_9.2, cσ51_19.1, cσ51_19.2]) <;> exact okk k hk)
    have n19 := (fc.2.1 19 (by decide)).1
    (try simp only [rII, rIJ, rIP, rJJ, rJI, rJP, rPP, rPI, rPJ, g1, g2, g3, g4, g5, g6, g7, g8, Nat.reduceEqDiff, Nat.reduceAdd, false_and, and_false, true_and, and_true, reduceIte, nZ0, nZ1, hdm, hmd, hdj, hjd, sσ53_6.1, sσ53_6.2, pσ53, cσ48_19.1, cσ48_19.2, fun a => (gσ48_16 a).1, fun a => (gσ48_16 a).2, cσ49_9.1, cσ49_9.2, fun a => (gσ49_16 a).1, fun a => (gσ49_16 a).2, cσ51_8.1, cσ51_8.2, cσ51_9.1, cσ51_9.2, cσ51_19.1, cσ51_19.2] at n19)
    have sc8 := congrFun (fc.2.2.1 da 15).1 (gI σ49 da 17).toNat
    (try simp only [rII, rIJ, rIP, rJJ, rJI, rJP, rPP, rPI, rPJ, g1, g2, g3, g4, g5, g6, g7, g8, Nat.reduceEqDiff, Nat.reduceAdd, false_and, and_false, true_and, and_true, reduceIte, nZ0, nZ1, hdm, hmd, hdj, hjd, sσ53_6.1, sσ53_6.2, pσ53, cσ48_19.1, cσ48_19.2, fun a => (gσ48_16 a).1, fun a => (gσ48_16 a).2, cσ49_9.1, cσ49_9.2, fun a => (gσ49_16 a).1, fun a => (gσ49_16 a).2, cσ51_8.1, cσ51_8.2, cσ51_9.1, cσ51_9.2, cσ51_19.1, cσ51_19.2] at sc8)
    have sC := sc8.trans sC
    clear p8
    have le6 := PsI.le ps9
    have s6n := (fσ55.2.1 6 (by decide)).1
    have sσ55_6 := fσ55.2.1 6 (by decide)
    have pσ55 := fσ55.2.2.2.1 (by decide)
    try simp only [rII, rIJ, rIP, rJJ, rJI, rJP, rPP, rPI, rPJ, g1, g2, g3, g4, g5, g6, g7, g8, Nat.reduceEqDiff, Nat.reduceAdd, false_and, and_false, true_and, and_true, reduceIte, nZ0, nZ1, hdm, hmd, hdj, hjd, sσ55_6.1, sσ55_6.2, pσ55, cσ48_19.1, cσ48_19.2, fun a => (gσ48_16 a).1, fun a => (gσ48_16 a).2, cσ49_9.1, cσ49_9.2, fun a => (gσ49_16 a).1, fun a => (gσ49_16 a).2, cσ51_8.1, cσ51_8.2, cσ51_9.1, cσ51_9.2, cσ51_19.1, cσ51_19.2, cσ55_19.1, cσ55_19.2, fun a => (gσ55_16 a).1, fun a => (gσ55_16 a).2] at p8
    try simp only [forall_eq, rII, rIJ, rIP, rJJ, rJI, rJP, rPP, rPI, rPJ, g1, g2, g3, g4, g5, g6, g7, g8, Nat.reduceEqDiff, Nat.reduceAdd, false_and, and_false, true_and, and_true, reduceIte, nZ0, nZ1, hdm, hmd, hdj, hjd, sσ55_6.1, sσ55_6.2, pσ55, cσ48_19.1, cσ48_19.2, fun a => (gσ48_16 a).1, fun a => (gσ48_16 a).2, cσ49_9.1, cσ49_9.2, fun a => (gσ49_16 a).1, fun a => (gσ49_16 a).2, cσ51_8.1, cσ51_8.2, cσ51_9.1, cσ51_9.2, cσ51_19.1, cσ51_19.2, cσ55_19.1, cσ55_19.2, fun a => (gσ55_16 a).1, fun a => (gσ55_16 a).2]
    have q9 := rσ55.2.1 9; simp only [rgS, hdm, hmd, hdj, hjd] at q9
    split
    · rename_i hc59
      skip
      unfold w_X16_choice_67
      try simp only [forall_eq, rII, rIJ, rIP, rJJ, rJI, rJP, rPP, rPI, rPJ, g1, g2, g3, g4, g5, g6, g7, g8, Nat.reduceEqDiff, Nat.reduceAdd, false_and, and_false, true_and, and_true, reduceIte, nZ0, nZ1, hdm, hmd, hdj, hjd, sσ55_6.1, sσ55_6.2, pσ55, cσ48_19.1, cσ48_19.2, fun a => (gσ48_16 a).1, fun a => (gσ48_16 a).2, cσ49_9.1, cσ49_9.2, fun a => (gσ49_16 a).1, fun a => (gσ49_16 a).2, cσ51_8.1, cσ51_8.2, cσ51_9.1, cσ51_9.2, cσ51_19.1, cσ51_19.2, cσ55_19.1, cσ55_19.2, fun a => (gσ55_16 a).1, fun a => (gσ55_16 a).2]
      refine s2_X16_opens g rσ55 (by exact ps9) (by omega) (by omega) (fun σ56 _ rσ56 fc p10 => ?_) (fun σx E rx fx px => hX _ _ rx (FdO.tr fσ55 (FdO.mor (Fr.d fx hda (by decide)) (by decide) (by decide) (by decide))) px)
      have fσ56 : FdO ra jx rm da o [15, 16] [4, 5, 7, 8, 9, 10, 11, 12, 13, 19] [15, 16] σ σ56 := FdO.tr fσ55 (FdO.mor (Fr.d fc hda (by decide)) (by decide) (by decide) (by decide))
      have cσ56_9 := fc.2.1 9 (by decide)
      have gσ56_16 := fun a => fc.2.2.1 a 16
      have n17o := n17
      have ps9 := p10.1; have cq9 := p10.2
      have pg9 := PgI.fr pg9 hda fc (by decide)
      have n17 := congrFun (Fr.ob fc hda (by decide)) 17
      (try simp only [rII, rIJ, rIP, rJJ, rJI, rJP, rPP, rPI, rPJ, g1, g2, g3, g4, g5, g6, g7, g8, Nat.reduceEqDiff, Nat.reduceAdd, false_and, and_false, true_and, and_true, reduceIte, nZ0, nZ1, hdm, hmd, hdj, hjd, sσ55_6.1, sσ55_6.2, pσ55, cσ48_19.1, cσ48_19.2, fun a => (gσ48_16 a).1, fun a => (gσ48_16 a).2, cσ49_9.1, cσ49_9.2, fun a => (gσ49_16 a).1, fun a => (gσ49_16 a).2, cσ51_8.1, cσ51_8.2, cσ51_9.1, cσ51_9.2, cσ51_19.1, cσ51_19.2, cσ55_19.1, cσ55_19.2, fun a => (gσ55_16 a).1, fun a => (gσ55_16 a).2] at n17)
      have okk : ∀ k, k ≠ 17 → gI σ56 da k = gI σ da k := fun k hk => (congrFun (Fr.ob fc hda (by decide)) k).trans (by (try simp only [rII, rIJ, rIP, rJJ, rJI, rJP, rPP, rPI, rPJ, g1, g2, g3, g4, g5, g6, g7, g8, Nat.reduceEqDiff, Nat.reduceAdd, false_and, and_false, true_and, and_true, reduceIte, nZ0, nZ1, hdm, hmd, hdj, hjd, sσ55_6.1, sσ55_6.2, pσ55, cσ48_19.1, cσ48_19.2, fun a => (gσ48_16 a).1, fun a => (gσ48_16 a).2, cσ49_9.1, cσ49_9.2, fun a => (gσ49_16 a).1, fun a => (gσ49_16 a).2, cσ51_8.1, cσ51_8.2, cσ51_9.1, cσ51_9.2, cσ51_19.1, cσ51_19.2, cσ55_19.1, cσ55_19.2, fun a => (gσ55_16 a).1, fun a => (gσ55_16 a).2]) <;> exact okk k hk)
      have le6 := PsI.le ps9
      have s6n := (fσ56.2.1 6 (by decide)).1
      have sC := (congrFun (fc.2.2.1 da 15).1 (gI σ49 da 17).toNat).trans sC
      have n4 : gI σ56 da 17 = gI σ53 da 17 := by omega
      have sσ56_6 := fσ56.2.1 6 (by decide)
      have pσ56 := fσ56.2.2.2.1 (by decide)
      try simp only [rII, rIJ, rIP, rJJ, rJI, rJP, rPP, rPI, rPJ, g1, g2, g3, g4, g5, g6, g7, g8, Nat.reduceEqDiff, Nat.reduceAdd, false_and, and_false, true_and, and_true, reduceIte, nZ0, nZ1, hdm, hmd, hdj, hjd, sσ56_6.1, sσ56_6.2, pσ56, cσ48_19.1, cσ48_19.2, fun a => (gσ48_16 a).1, fun a => (gσ48_16 a).2, cσ49_9.1, cσ49_9.2, fun a => (gσ49_16 a).1, fun a => (gσ49_16 a).2, cσ51_8.1, cσ51_8.2, cσ51_9.1, cσ51_9.2, cσ51_19.1, cσ51_19.2, cσ55_19.1, cσ55_19.2, fun a => (gσ55_16 a).1, fun a => (gσ55_16 a).2, cσ56_9.1, cσ56_9.2, fun a => (gσ56_16 a).1, fun a => (gσ56_16 a).2] at p10
      try simp only [forall_eq, rII, rIJ, rIP, rJJ, rJI, rJP, rPP, rPI, rPJ, g1, g2, g3, g4, g5, g6, g7, g8, Nat.reduceEqDiff, Nat.reduceAdd, false_and, and_false, true_and, and_true, reduceIte, nZ0, nZ1, hdm, hmd, hdj, hjd, sσ56_6.1, sσ56_6.2, pσ56, cσ48_19.1, cσ48_19.2, fun a => (gσ48_16 a).1, fun a => (gσ48_16 a).2, cσ49_9.1, cσ49_9.2, fun a => (gσ49_16 a).1, fun a => (gσ49_16 a).2, cσ51_8.1, cσ51_8.2, cσ51_9.1, cσ51_9.2, cσ51_19.1, cσ51_19.2, cσ55_19.1, cσ55_19.2, fun a => (gσ55_16 a).1, fun a => (gσ55_16 a).2, cσ56_9.1, cσ56_9.2, fun a => (gσ56_16 a).1, fun a => (gσ56_16 a).2]
      refine ⟨da, by exact hd, hda, ?_⟩
      refine s2_X15_step (o := o) g rσ56 hda (by omega) (by omega) (fun σ58 r59 rσ58 fc p11 => ?_)
      have fσ58 : FdO ra jx rm da o [15, 16] [4, 5, 7, 8, 9, 10, 11, 12, 13, 19] [15, 16] σ σ58 := FdO.tr fσ56 (FdO.mor (fc) (by decide) (by decide) (by decide))
      have cσ58_8 := fc.2.1 8 (by decide)
      have cσ58_9 := fc.2.1 9 (by decide)
      have cσ58_19 := fc.2.1 19 (by decide)
      have L0 := p11.1; have L1 := p11.2.1; have L2 := p11.2.2.1; have L3 := p11.2.2.2.1
      have okk : ∀ k, k ≠ 17 → gI σ58 da k = gI σ da k := fun k hk => (p11.2.2.2.2 k hk).trans (okk k hk)
      have pf9 := PsI.frj ps9 (FdO.fj fc) (by decide)
      have ps9 := pf9.1; have cq9 := pf9.2
      clear pf9 p11
      have n19 := (fc.2.1 19 (by decide)).1
      have le6 := PsI.le ps9
      have s6n := (fσ58.2.1 6 (by decide)).1
      have hN6 : gI σ58 da 17 ≤ 6000 := by omega
      obtain ⟨dqE, agE, pg9, deE, dE2, sE⟩ := choE1 (z := r52) (d := dp (gI σ da 17)) hNp hN6 hd9 de9 agB deB A1 A2 agC pg9 deC nlC n4 sC L1 L2 L3 A0
      have ag7 := ag9
      have ag9 : ∀ pc, pc ≤ gI σ da 17 → dqE pc = dp pc := fun pc hp => (agE pc (by omega)).trans (ag7 pc hp)
      have psJ : PsI rm (pJ σ58 (jx da 16) r52.toNat (Int64.ofInt (gI σ58 da 17))) := PsIJ ps9
      have hN2p : 0 ≤ gI σ56 da 17 := by omega
      have sσ58_6 := fσ58.2.1 6 (by decide)
      have pσ58 := fσ58.2.2.2.1 (by decide)
      try simp only [rII, rIJ, rIP, rJJ, rJI, rJP, rPP, rPI, rPJ, g1, g2, g3, g4, g5, g6, g7, g8, Nat.reduceEqDiff, Nat.reduceAdd, false_and, and_false, true_and, and_true, reduceIte, nZ0, nZ1, hdm, hmd, hdj, hjd, sσ58_6.1, sσ58_6.2, pσ58, cσ48_19.1, cσ48_19.2, fun a => (gσ48_16 a).1, fun a => (gσ48_16 a).2, cσ49_9.1, cσ49_9.2, fun a => (gσ49_16 a).1, fun a => (gσ49_16 a).2, cσ51_8.1, cσ51_8.2, cσ51_9.1, cσ51_9.2, cσ51_19.1, cσ51_19.2, cσ55_19.1, cσ55_19.2, fun a => (gσ55_16 a).1, fun a => (gσ55_16 a).2, cσ56_9.1, cσ56_9.2, fun a => (gσ56_16 a).1, fun a => (gσ56_16 a).2, cσ58_8.1, cσ58_8.2, cσ58_9.1, cσ58_9.2, cσ58_19.1, cσ58_19.2] at p11
      try simp only [forall_eq, rII, rIJ, rIP, rJJ, rJI, rJP, rPP, rPI, rPJ, g1, g2, g3, g4, g5, g6, g7, g8, Nat.reduceEqDiff, Nat.reduceAdd, false_and, and_false, true_and, and_true, reduceIte, nZ0, nZ1, hdm, hmd, hdj, hjd, sσ58_6.1, sσ58_6.2, pσ58, cσ48_19.1, cσ48_19.2, fun a => (gσ48_16 a).1, fun a => (gσ48_16 a).2, cσ49_9.1, cσ49_9.2, fun a => (gσ49_16 a).1, fun a => (gσ49_16 a).2, cσ51_8.1, cσ51_8.2, cσ51_9.1, cσ51_9.2, cσ51_19.1, cσ51_19.2, cσ55_19.1, cσ55_19.2, fun a => (gσ55_16 a).1, fun a => (gσ55_16 a).2, cσ56_9.1, cσ56_9.2, fun a => (gσ56_16 a).1, fun a => (gσ56_16 a).2, cσ58_8.1, cσ58_8.2, cσ58_9.1, cσ58_9.2, cσ58_19.1, cσ58_19.2]
      refine ⟨da, by exact hd, hda, ?_⟩
      refine ⟨da, by exact hd, hda, ?_⟩
      refine ⟨by (first | omega | with_reducible assumption | (unfold rng; omega) | (unfold rng; (repeat' split) <;> omega) | decide), ?_⟩
      refine ih0 (o := o) (dp := dqE) (ex := fun pc => ex pc ∨ pc = gI σ56 da 17) g (by refine Rg.jJ g ?_; exact rσ58) psJ (by (try simp only [rII, rIJ, rIP, rJJ, rJI, rJP, rPP, rPI, rPJ, g1, g2, g3, g4, g5, g6, g7, g8, Nat.reduceEqDiff, Nat.reduceAdd, false_and, and_false, true_and, and_true, reduceIte, nZ0, nZ1, hdm, hmd, hdj, hjd, sσ58_6.1, sσ58_6.2, pσ58, cσ48_19.1, cσ48_19.2, fun a => (gσ48_16 a).1, fun a => (gσ48_16 a).2, cσ49_9.1, cσ49_9.2, fun a => (gσ49_16 a).1, fun a => (gσ49_16 a).2, cσ51_8.1, cσ51_8.2, cσ51_9.1, cσ51_9.2, cσ51_19.1, cσ51_19.2, cσ55_19.1, cσ55_19.2, fun a => (gσ55_16 a).1, fun a => (gσ55_16 a).2, cσ56_9.1, cσ56_9.2, fun a => (gσ56_16 a).1, fun a => (gσ56_16 a).2, cσ58_8.1, cσ58_8.2, cσ58_9.1, cσ58_9.2, cσ58_19.1, cσ58_19.2]) <;> first | exact hd | (rw [fσ58.2.2.2.1 (by decide)]; exact hd)) hda h1 (by simp only [cnJ, rIJ]; omega) (by exact pg9) (by simp only [rIJ]; omega) (by simp only [rIJ]; exact fun pc hp q => q.elim (hex pc (by omega)) (fun z => by omega)) (by (try simp only [rII, rIJ, rIP, rJJ, rJI, rJP, rPP, rPI, rPJ, g1, g2, g3, g4, g5, g6, g7, g8, Nat.reduceEqDiff, Nat.reduceAdd, false_and, and_false, true_and, and_true, reduceIte, nZ0, nZ1, hdm, hmd, hdj, hjd, sσ58_6.1, sσ58_6.2, pσ58, cσ48_19.1, cσ48_19.2, fun a => (gσ48_16 a).1, fun a => (gσ48_16 a).2, cσ49_9.1, cσ49_9.2, fun a => (gσ49_16 a).1, fun a => (gσ49_16 a).2, cσ51_8.1, cσ51_8.2, cσ51_9.1, cσ51_9.2, cσ51_19.1, cσ51_19.2, cσ55_19.1, cσ55_19.2, fun a => (gσ55_16 a).1, fun a => (gσ55_16 a).2, cσ56_9.1, cσ56_9.2, fun a => (gσ56_16 a).1, fun a => (gσ56_16 a).2, cσ58_8.1, cσ58_8.2, cσ58_9.1, cσ58_9.2, cσ58_19.1, cσ58_19.2]) <;> omega) (fun σ63 _ rσ63 fc p13 => ?_) (fun σx E rx fx px => hX _ _ rx (FdO.tr (by refine FdO.jJ g ?_ hda (by decide) (by (simp only [Jk]) <;> (first | omega | with_reducible assumption | (unfold rng; omega) | (unfold rng; (repeat' split) <;> omega) | decide)); exact fσ58) (FdO.mor (fx) (by decide) (by decide) (by decide))) px)
      have fσ63 : FdO ra jx rm da o [15, 16] [4, 5, 7, 8, 9, 10, 11, 12, 13, 19] [15, 16] σ σ63 := FdO.tr (by refine FdO.jJ g ?_ hda (by decide) (by (simp only [Jk]) <;> (first | omega | with_reducible assumption | (unfold rng; omega) | (unfold rng; (repeat' split) <;> omega) | decide)); exact fσ58) (FdO.mor (fc) (by decide) (by decide) (by decide))
      obtain ⟨⟨dqG, agG, pgG, deG⟩, ps9, cq9, n19, nlG, ok9⟩ := p13
      simp only [cnJ, rIJ] at cq9 nlG deG agG n19 ok9
      have okk : ∀ k, k ≠ 17 → gI σ63 da k = gI σ da k := fun k hk => (ok9 k hk).trans (okk k hk)
      have sG := ((fc.2.2.2.2.2.1 15 (gI σ56 da 17).toNat (by simp only [Jk, rIJ]; omega)).1).trans (show _ = (15 : Int) from by rw [rIJ]; exact sE)
      clear ok9
      have le6 := PsI.le ps9
      have s6n := (fσ63.2.1 6 (by decide)).1
      have hN62 : gI σ63 da 17 ≤ 6000 := by omega
      obtain ⟨pgZ, de9⟩ := choE2 (e := r59) (d := dp (gI σ da 17)) hN2p hN62 hd9 L1 deE dE2 agG pgG deG nlG sG L0
      have ag7 := ag9
      have ag9 : ∀ pc, pc ≤ gI σ da 17 → dqG pc = dp pc := fun pc hp => (agG pc (by omega)).trans (ag7 pc hp)
      have sσ63_6 := fσ63.2.1 6 (by decide)
      have pσ63 := fσ63.2.2.2.1 (by decide)
      try simp only [rII, rIJ, rIP, rJJ, rJI, rJP, rPP, rPI, rPJ, g1, g2, g3, g4, g5, g6, g7, g8, Nat.reduceEqDiff, Nat.reduceAdd, false_and, and_false, true_and, and_true, reduceIte, nZ0, nZ1, hdm, hmd, hdj, hjd, sσ63_6.1, sσ63_6.2, pσ63, cσ48_19.1, cσ48_19.2, fun a => (gσ48_16 a).1, fun a => (gσ48_16 a).2, cσ49_9.1, cσ49_9.2, fun a => (gσ49_16 a).1, fun a => (gσ49_16 a).2, cσ51_8.1, cσ51_8.2, cσ51_9.1, cσ51_9.2, cσ51_19.1, cσ51_19.2, cσ55_19.1, cσ55_19.2, fun a => (gσ55_16 a).1, fun a => (gσ55_16 a).2, cσ56_9.1, cσ56_9.2, fun a => (gσ56_16 a).1, fun a => (gσ56_16 a).2, cσ58_8.1, cσ58_8.2, cσ58_9.1, cσ58_9.2, cσ58_19.1, cσ58_19.2] at p13
      try simp only [forall_eq, rII, rIJ, rIP, rJJ, rJI, rJP, rPP, rPI, rPJ, g1, g2, g3, g4, g5, g6, g7, g8, Nat.reduceEqDiff, Nat.reduceAdd, false_and, and_false, true_and, and_true, reduceIte, nZ0, nZ1, hdm, hmd, hdj, hjd, sσ63_6.1, sσ63_6.2, pσ63, cσ48_19.1, cσ48_19.2, fun a => (gσ48_16 a).1, fun a => (gσ48_16 a).2, cσ49_9.1, cσ49_9.2, fun a => (gσ49_16 a).1, fun a => (gσ49_16 a).2, cσ51_8.1, cσ51_8.2, cσ51_9.1, cσ51_9.2, cσ51_19.1, cσ51_19.2, cσ55_19.1, cσ55_19.2, fun a => (gσ55_16 a).1, fun a => (gσ55_16 a).2, cσ56_9.1, cσ56_9.2, fun a => (gσ56_16 a).1, fun a => (gσ56_16 a).2, cσ58_8.1, cσ58_8.2, cσ58_9.1, cσ58_9.2, cσ58_19.1, cσ58_19.2]
      refine ⟨da, by exact hd, hda, ?_⟩
      refine ⟨da, by exact hd, hda, ?_⟩
      refine ⟨by (first | omega | with_reducible assumption | (unfold rng; omega) | (unfold rng; (repeat' split) <;> omega) | decide), ?_⟩
      have q15 := rσ63.2.1 19; simp only [rgS, hdm, hmd, hdj, hjd] at q15
      refine ⟨by (first | omega | with_reducible assumption | (unfold rng; omega) | (unfold rng; (repeat' split) <;> omega) | decide), ?_⟩
      refine hQ _ _ ?_ ?_ ?_
      · refine Rg.sI g ?_ (by simp only [rgS]; first | with_reducible exact nZ_rng _ | with_reducible exact nB_rng _ | with_reducible exact wr_rng _ | with_reducible exact i32any _ | (first | omega | with_reducible assumption | (unfold rng; omega) | (unfold rng; (repeat' split) <;> omega) | decide)); refine Rg.jJ g ?_; exact rσ63
      · refine FdO.sI g ?_ hda (by decide); refine FdO.jJ g ?_ hda (by decide) (by (simp only [Jk]) <;> (first | omega | with_reducible assumption | (unfold rng; omega) | (unfold rng; (repeat' split) <;> omega) | decide)); exact fσ63
      · first | exact ⟨⟨dq9, ag9, pg9, by omega⟩, ps9, by omega, by omega, by omega, okk⟩ | exact ⟨⟨dqG, ag9, PgI.fr (K := []) (S := [19]) pgZ hda (by repeat (first | exact Fr.rf | assumption | refine Fr.aJ g ?_ (by decide) | refine Fr.aI g ?_ (by decide) | refine Fr.sI g ?_ (by decide) | refine Fr.sJ g ?_ (by decide))) (by decide), by (try simp only [rII, rIJ, rIP, rJJ, rJI, rJP, rPP, rPI, rPJ, g1, g2, g3, g4, g5, g6, g7, g8, Nat.reduceEqDiff, Nat.reduceAdd, false_and, and_false, true_and, and_true, reduceIte, nZ0, nZ1, hdm, hmd, hdj, hjd, sσ63_6.1, sσ63_6.2, pσ63, cσ48_19.1, cσ48_19.2, fun a => (gσ48_16 a).1, fun a => (gσ48_16 a).2, cσ49_9.1, cσ49_9.2, fun a => (gσ49_16 a).1, fun a => (gσ49_16 a).2, cσ51_8.1, cσ51_8.2, cσ51_9.1, cσ51_9.2, cσ51_19.1, cσ51_19.2, cσ55_19.1, cσ55_19.2, fun a => (gσ55_16 a).1, fun a => (gσ55_16 a).2, cσ56_9.1, cσ56_9.2, fun a => (gσ56_16 a).1, fun a => (gσ56_16 a).2, cσ58_8.1, cσ58_8.2, cσ58_9.1, cσ58_9.2, cσ58_19.1, cσ58_19.2]) <;> omega⟩, PsI19 (PsIJ ps9), by rw [cn19, cnJ]; (try simp only [rII, rIJ, rIP, rJJ, rJI, rJP, rPP, rPI, rPJ, g1, g2, g3, g4, g5, g6, g7, g8, Nat.reduceEqDiff, Nat.reduceAdd, false_and, and_false, true_and, and_true, reduceIte, nZ0, nZ1, hdm, hmd, hdj, hjd, sσ63_6.1, sσ63_6.2, pσ63, cσ48_19.1, cσ48_19.2, fun a => (gσ48_16 a).1, fun a => (gσ48_16 a).2, cσ49_9.1, cσ49_9.2, fun a => (gσ49_16 a).1, fun a => (gσ49_16 a).2, cσ51_8.1, cσ51_8.2, cσ51_9.1, cσ51_9.2, cσ51_19.1, cσ51_19.2, cσ55_19.1, cσ55_19.2, fun a => (gσ55_16 a).1, fun a => (gσ55_16 a).2, cσ56_9.1, cσ56_9.2, fun a => (gσ56_16 a).1, fun a => (gσ56_16 a).2, cσ58_8.1, cσ58_8.2, cσ58_9.1, cσ58_9.2, cσ58_19.1, cσ58_19.2]) <;> omega, by (try simp only [rII, rIJ, rIP, rJJ, rJI, rJP, rPP, rPI, rPJ, g1, g2, g3, g4, g5, g6, g7, g8, Nat.reduceEqDiff, Nat.reduceAdd, false_and, and_false, true_and, and_true, reduceIte, nZ0, nZ1, hdm, hmd, hdj, hjd, sσ63_6.1, sσ63_6.2, pσ63, cσ48_19.1, cσ48_19.2, fun a => (gσ48_16 a).1, fun a => (gσ48_16 a).2, cσ49_9.1, cσ49_9.2, fun a => (gσ49_16 a).1, fun a => (gσ49_16 a).2, cσ51_8.1, cσ51_8.2, cσ51_9.1, cσ51_9.2, cσ51_19.1, cσ51_19.2, cσ55_19.1, cσ55_19.2, fun a => (gσ55_16 a).1, fun a => (gσ55_16 a).2, cσ56_9.1, cσ56_9.2, fun a => (gσ56_16 a).1, fun a => (gσ56_16 a).2, cσ58_8.1, cσ58_8.2, cσ58_9.1, cσ58_9.2, cσ58_19.1, cσ58_19.2]) <;> omega, by (try simp only [rII, rIJ, rIP, rJJ, rJI, rJP, rPP, rPI, rPJ, g1, g2, g3, g4, g5, g6, g7, g8, Nat.reduceEqDiff, Nat.reduceAdd, false_and, and_false, true_and, and_true, reduceIte, nZ0, nZ1, hdm, hmd, hdj, hjd, sσ63_6.1, sσ63_6.2, pσ63, cσ48_19.1, cσ48_19.2, fun a => (gσ48_16 a).1, fun a => (gσ48_16 a).2, cσ49_9.1, cσ49_9.2, fun a => (gσ49_16 a).1, fun a => (gσ49_16 a).2, cσ51_8.1, cσ51_8.2, cσ51_9.1, cσ51_9.2, cσ51_19.1, cσ51_19.2, cσ55_19.1, cσ55_19.2, fun a => (gσ55_16 a).1, fun a => (gσ55_16 a).2, cσ56_9.1, cσ56_9.2, fun a => (gσ56_16 a).1, fun a => (gσ56_16 a).2, cσ58_8.1, cσ58_8.2, cσ58_9.1, cσ58_9.2, cσ58_19.1, cσ58_19.2]) <;> omega, fun k hk => by (try simp only [rII, rIJ, rIP, rJJ, rJI, rJP, rPP, rPI, rPJ, g1, g2, g3, g4, g5, g6, g7, g8, Nat.reduceEqDiff, Nat.reduceAdd, false_and, and_false, true_and, and_true, reduceIte, nZ0, nZ1, hdm, hmd, hdj, hjd, sσ63_6.1, sσ63_6.2, pσ63, cσ48_19.1, cσ48_19.2, fun a => (gσ48_16 a).1, fun a => (gσ48_16 a).2, cσ49_9.1, cσ49_9.2, fun a => (gσ49_16 a).1, fun a => (gσ49_16 a).2, cσ51_8.1, cσ51_8.2, cσ51_9.1, cσ51_9.2, cσ51_19.1, cσ51_19.2, cσ55_19.1, cσ55_19.2, fun a => (gσ55_16 a).1, fun a => (gσ55_16 a).2, cσ56_9.1, cσ56_9.2, fun a => (gσ56_16 a).1, fun a => (gσ56_16 a).2, cσ58_8.1, cσ58_8.2, cσ58_9.1, cσ58_9.2, cσ58_19.1, cσ58_19.2]) <;> exact okk k hk⟩
    · rename_i hc59
      skip
      unfold w_X16_choice_62
      try simp only [forall_eq, rII, rIJ, rIP, rJJ, rJI, rJP, rPP, rPI, rPJ, g1, g2, g3, g4, g5, g6, g7, g8, Nat.reduceEqDiff, Nat.reduceAdd, false_and, and_false, true_and, and_true, reduceIte, nZ0, nZ1, hdm, hmd, hdj, hjd, sσ55_6.1, sσ55_6.2, pσ55, cσ48_19.1, cσ48_19.2, fun a => (gσ48_16 a).1, fun a => (gσ48_16 a).2, cσ49_9.1, cσ49_9.2, fun a => (gσ49_16 a).1, fun a => (gσ49_16 a).2, cσ51_8.1, cσ51_8.2, cσ51_9.1, cσ51_9.2, cσ51_19.1, cσ51_19.2, cσ55_19.1, cσ55_19.2, fun a => (gσ55_16 a).1, fun a => (gσ55_16 a).2]
      refine s_X16_misplaced g rσ55 (fun σ68 r69 rσ68 fc p16 => ?_)
      have fσ68 : FdO ra jx rm da o [15, 16] [4, 5, 7, 8, 9, 10, 11, 12, 13, 19] [15, 16] σ σ68 := FdO.tr fσ55 (FdO.mor (Fr.d fc hda (by decide)) (by decide) (by decide) (by decide))
      have cσ68_8 := fc.2.1 8 (by decide)
      have cσ68_9 := fc.2.1 9 (by decide)
      have cσ68_19 := fc.2.1 19 (by decide)
      have gσ68_16 := fun a => fc.2.2.1 a 16
      have sσ68_6 := fσ68.2.1 6 (by decide)
      have pσ68 := fσ68.2.2.2.1 (by decide)
      try simp only [rII, rIJ, rIP, rJJ, rJI, rJP, rPP, rPI, rPJ, g1, g2, g3, g4, g5, g6, g7, g8, Nat.reduceEqDiff, Nat.reduceAdd, false_and, and_false, true_and, and_true, reduceIte, nZ0, nZ1, hdm, hmd, hdj, hjd, sσ68_6.1, sσ68_6.2, pσ68, cσ48_19.1, cσ48_19.2, fun a => (gσ48_16 a).1, fun a => (gσ48_16 a).2, cσ49_9.1, cσ49_9.2, fun a => (gσ49_16 a).1, fun a => (gσ49_16 a).2, cσ51_8.1, cσ51_8.2, cσ51_9.1, cσ51_9.2, cσ51_19.1, cσ51_19.2, cσ55_19.1, cσ55_19.2, fun a => (gσ55_16 a).1, fun a => (gσ55_16 a).2, cσ68_8.1, cσ68_8.2, cσ68_9.1, cσ68_9.2, cσ68_19.1, cσ68_19.2, fun a => (gσ68_16 a).1, fun a => (gσ68_16 a).2] at p16
      try simp only [forall_eq, rII, rIJ, rIP, rJJ, rJI, rJP, rPP, rPI, rPJ, g1, g2, g3, g4, g5, g6, g7, g8, Nat.reduceEqDiff, Nat.reduceAdd, false_and, and_false, true_and, and_true, reduceIte, nZ0, nZ1, hdm, hmd, hdj, hjd, sσ68_6.1, sσ68_6.2, pσ68, cσ48_19.1, cσ48_19.2, fun a => (gσ48_16 a).1, fun a => (gσ48_16 a).2, cσ49_9.1, cσ49_9.2, fun a => (gσ49_16 a).1, fun a => (gσ49_16 a).2, cσ51_8.1, cσ51_8.2, cσ51_9.1, cσ51_9.2, cσ51_19.1, cσ51_19.2, cσ55_19.1, cσ55_19.2, fun a => (gσ55_16 a).1, fun a => (gσ55_16 a).2, cσ68_8.1, cσ68_8.2, cσ68_9.1, cσ68_9.2, cσ68_19.1, cσ68_19.2, fun a => (gσ68_16 a).1, fun a => (gσ68_16 a).2]
      refine ⟨by first | assumption | simp, ?_⟩
      refine hX _ _ ?_ ?_ ?_
      · exact rσ68
      · exact fσ68
      · exact rfl
  · rename_i hc15
    skip
    unfold w_X16_choice_18
    try simp only [forall_eq, rII, rIJ, rIP, rJJ, rJI, rJP, rPP, rPI, rPJ, g1, g2, g3, g4, g5, g6, g7, g8, Nat.reduceEqDiff, Nat.reduceAdd, false_and, and_false, true_and, and_true, reduceIte, nZ0, nZ1, hdm, hmd, hdj, hjd, sσ48_6.1, sσ48_6.2, pσ48, cσ48_19.1, cσ48_19.2, fun a => (gσ48_16 a).1, fun a => (gσ48_16 a).2]
    refine hQ _ _ ?_ ?_ ?_
    · exact rσ48
    · exact fσ48
    · first | exact ⟨⟨dq9, ag9, pg9, by omega⟩, ps9, by omega, by omega, by omega, okk⟩ | exact ⟨⟨dqG, ag9, PgI.fr (K := []) (S := [19]) pgZ hda (by repeat (first | exact Fr.rf | assumption | refine Fr.aJ g ?_ (by decide) | refine Fr.aI g ?_ (by decide) | refine Fr.sI g ?_ (by decide) | refine Fr.sJ g ?_ (by decide))) (by decide), by (try simp only [rII, rIJ, rIP, rJJ, rJI, rJP, rPP, rPI, rPJ, g1, g2, g3, g4, g5, g6, g7, g8, Nat.reduceEqDiff, Nat.reduceAdd, false_and, and_false, true_and, and_true, reduceIte, nZ0, nZ1, hdm, hmd, hdj, hjd, sσ48_6.1, sσ48_6.2, pσ48, cσ48_19.1, cσ48_19.2, fun a => (gσ48_16 a).1, fun a => (gσ48_16 a).2]) <;> omega⟩, PsI19 (PsIJ ps9), by rw [cn19, cnJ]; (try simp only [rII, rIJ, rIP, rJJ, rJI, rJP, rPP, rPI, rPJ, g1, g2, g3, g4, g5, g6, g7, g8, Nat.reduceEqDiff, Nat.reduceAdd, false_and, and_false, true_and, and_true, reduceIte, nZ0, nZ1, hdm, hmd, hdj, hjd, sσ48_6.1, sσ48_6.2, pσ48, cσ48_19.1, cσ48_19.2, fun a => (gσ48_16 a).1, fun a => (gσ48_16 a).2]) <;> omega, by (try simp only [rII, rIJ, rIP, rJJ, rJI, rJP, rPP, rPI, rPJ, g1, g2, g3, g4, g5, g6, g7, g8, Nat.reduceEqDiff, Nat.reduceAdd, false_and, and_false, true_and, and_true, reduceIte, nZ0, nZ1, hdm, hmd, hdj, hjd, sσ48_6.1, sσ48_6.2, pσ48, cσ48_19.1, cσ48_19.2, fun a => (gσ48_16 a).1, fun a => (gσ48_16 a).2]) <;> omega, by (try simp only [rII, rIJ, rIP, rJJ, rJI, rJP, rPP, rPI, rPJ, g1, g2, g3, g4, g5, g6, g7, g8, Nat.reduceEqDiff, Nat.reduceAdd, false_and, and_false, true_and, and_true, reduceIte, nZ0, nZ1, hdm, hmd, hdj, hjd, sσ48_6.1, sσ48_6.2, pσ48, cσ48_19.1, cσ48_19.2, fun a => (gσ48_16 a).1, fun a => (gσ48_16 a).2]) <;> omega, fun k hk => by (try simp only [rII, rIJ, rIP, rJJ, rJI, rJP, rPP, rPI, rPJ, g1, g2, g3, g4, g5, g6, g7, g8, Nat.reduceEqDiff, Nat.reduceAdd, false_and, and_false, true_and, and_true, reduceIte, nZ0, nZ1, hdm, hmd, hdj, hjd, sσ48_6.1, sσ48_6.2, pσ48, cσ48_19.1, cσ48_19.2, fun a => (gσ48_16 a).1, fun a => (gσ48_16 a).2]) <;> exact okk k hk⟩
set_option maxHeartbeats 1000000 in
theorem s_X16_either {ra : Nat → Nat} {jx : Nat → Nat → Nat} {rm : Nat} {n : Nat} {da : Nat} {o : Int} {dp : Int → Int} {ex : Int → Prop} (g : Geo ra jx rm) {σ : Sg} {v1 : Int} (rσ : Rg ra jx rm σ) (hps : PsI rm σ) (hd : gP σ rm 18 = some da) (hda : da = ra 15 ∨ da = ra 16) (h1 : 0 ≤ v1 ∧ v1 < 16) (hN : 0 ≤ gI σ da 17 ∧ gI σ da 17 ≤ 4 * cn rm σ) (hpg : PgI jx da σ dp ex) (hdp : 0 ≤ dp (gI σ da 17) ∧ dp (gI σ da 17) ≤ 3 * gI σ rm 19 + 0) (hex : ∀ pc, gI σ da 17 ≤ pc → ¬ ex pc) (hfu : 7 * (11 - gI σ rm 19) - 1 ≤ (n : Int) + 1) (ih0 : ∀ {da : Nat} {o : Int} {dp : Int → Int} {ex : Int → Prop} (_ : Geo ra jx rm) {σ : Sg} {v1 : Int} (_ : Rg ra jx rm σ) (_ : PsI rm σ) (_ : gP σ rm 18 = some da) (_ : da = ra 15 ∨ da = ra 16) (_ : 0 ≤ v1 ∧ v1 < 16) (_ : 0 ≤ gI σ da 17 ∧ gI σ da 17 ≤ 4 * cn rm σ) (_ : PgI jx da σ dp ex) (_ : 0 ≤ dp (gI σ da 17) ∧ dp (gI σ da 17) ≤ 3 * gI σ rm 19 + 0) (_ : ∀ pc, gI σ da 17 ≤ pc → ¬ ex pc) (_ : 7 * (11 - gI σ rm 19) - 0 ≤ (n : Int)) {Q : Sg → Unit → Prop} {X : Sg → String → Prop} (_ : ∀ (σ' : Sg) (r : Unit), Rg ra jx rm σ' → FdO ra jx rm da o [15, 16] [4, 5, 7, 8, 9, 10, 11, 12, 13, 19] [15, 16] σ σ' → ((∃ dq : Int → Int, (∀ pc, pc ≤ gI σ da 17 → dq pc = dp pc) ∧ PgI jx da σ' dq ex ∧ dq (gI σ' da 17) = dp (gI σ da 17) + 1) ∧ PsI rm σ' ∧ gI σ' da 17 - 4 * cn rm σ' ≤ gI σ da 17 - 4 * cn rm σ ∧ gI σ' rm 19 = gI σ rm 19 ∧ gI σ da 17 < gI σ' da 17 ∧ (∀ k, k ≠ 17 → gI σ' da k = gI σ da k)) → Q σ' r) (_ : ∀ (σ' : Sg) (E : String), Rg ra jx rm σ' → FdO ra jx rm da o [15, 16] [4, 5, 7, 8, 9, 10, 11, 12, 13, 19] [15, 16] σ σ' → (E = "StreamHouseModel$Fault") → X σ' E), wrec ra jx rm n 0 v1 σ Q X) (ih1 : ∀ {da : Nat} {o : Int} {dp : Int → Int} {ex : Int → Prop} (_ : Geo ra jx rm) {σ : Sg} {v1 : Int} (_ : Rg ra jx rm σ) (_ : PsI rm σ) (_ : gP σ rm 18 = some da) (_ : da = ra 15 ∨ da = ra 16) (_ : 0 ≤ v1 ∧ v1 < 16) (_ : 0 ≤ gI σ da 17 ∧ gI σ da 17 ≤ 4 * cn rm σ) (_ : PgI jx da σ dp ex) (_ : 0 ≤ dp (gI σ da 17) ∧ dp (gI σ da 17) ≤ 3 * gI σ rm 19 + 0) (_ : ∀ pc, gI σ da 17 ≤ pc → ¬ ex pc) (_ : 7 * (11 - gI σ rm 19) - 1 ≤ (n : Int)) {Q : Sg → Unit → Prop} {X : Sg → String → Prop} (_ : ∀ (σ' : Sg) (r : Unit), Rg ra jx rm σ' → FdO ra jx rm da o [15, 16] [4, 5, 7, 8, 9, 10, 11, 12, 13, 19] [15, 16] σ σ' → ((∃ dq : Int → Int, (∀ pc, pc ≤ gI σ da 17 → dq pc = dp pc) ∧ PgI jx da σ' dq ex ∧ dq (gI σ' da 17) = dp (gI σ da 17) + 1) ∧ PsI rm σ' ∧ gI σ' da 17 - 4 * cn rm σ' ≤ gI σ da 17 - 4 * cn rm σ ∧ gI σ' rm 19 = gI σ rm 19 ∧ gI σ da 17 < gI σ' da 17 ∧ (∀ k, k ≠ 17 → gI σ' da k = gI σ da k)) → Q σ' r) (_ : ∀ (σ' : Sg) (E : String), Rg ra jx rm σ' → FdO ra jx rm da o [15, 16] [4, 5, 7, 8, 9, 10, 11, 12, 13, 19] [15, 16] σ σ' → (E = "StreamHouseModel$Fault") → X σ' E), wrec ra jx rm n 1 v1 σ Q X) (ih2 : ∀ {da : Nat} {o : Int} {dp : Int → Int} {ex : Int → Prop} (_ : Geo ra jx rm) {σ : Sg} {v1 : Int} (_ : Rg ra jx rm σ) (_ : PsI rm σ) (_ : gP σ rm 18 = some da) (_ : da = ra 15 ∨ da = ra 16) (_ : 0 ≤ v1 ∧ v1 < 16) (_ : 0 ≤ gI σ da 17 ∧ gI σ da 17 ≤ 4 * cn rm σ) (_ : PgI jx da σ dp ex) (_ : 0 ≤ dp (gI σ da 17) ∧ dp (gI σ da 17) ≤ 3 * gI σ rm 19 + 0) (_ : ∀ pc, gI σ da 17 ≤ pc → ¬ ex pc) (_ : 7 * (11 - gI σ rm 19) - 2 ≤ (n : Int)) {Q : Sg → Unit → Prop} {X : Sg → String → Prop} (_ : ∀ (σ' : Sg) (r : Unit), Rg ra jx rm σ' → FdO ra jx rm da o [15, 16] [4, 5, 7, 8, 9, 10, 11, 12, 13, 19] [15, 16] σ σ' → ((∃ dq : Int → Int, (∀ pc, pc ≤ gI σ da 17 → dq pc = dp pc) ∧ PgI jx da σ' dq ex ∧ dq (gI σ' da 17) = dp (gI σ da 17) + 1) ∧ PsI rm σ' ∧ gI σ' da 17 - 4 * cn rm σ' ≤ gI σ da 17 - 4 * cn rm σ ∧ gI σ' rm 19 = gI σ rm 19 ∧ gI σ da 17 < gI σ' da 17 ∧ (∀ k, k ≠ 17 → gI σ' da k = gI σ da k)) → Q σ' r) (_ : ∀ (σ' : Sg) (E : String), Rg ra jx rm σ' → FdO ra jx rm da o [15, 16] [4, 5, 7, 8, 9, 10, 11, 12, 13, 19] [15, 16] σ σ' → (E = "StreamHouseModel$Fault") → X σ' E), wrec ra jx rm n 2 v1 σ Q X) (ih3 : ∀ {da : Nat} {o : Int} {dp : Int → Int} {ex : Int → Prop} (_ : Geo ra jx rm) {σ : Sg} {v1 : Int} (_ : Rg ra jx rm σ) (_ : PsI rm σ) (_ : gP σ rm 18 = some da) (_ : da = ra 15 ∨ da = ra 16) (_ : 0 ≤ v1 ∧ v1 < 16) (_ : 0 ≤ gI σ da 17 ∧ gI σ da 17 ≤ 4 * cn rm σ) (_ : PgI jx da σ dp ex) (_ : 0 ≤ dp (gI σ da 17) ∧ dp (gI σ da 17) ≤ 3 * gI σ rm 19 + 0) (_ : ∀ pc, gI σ da 17 ≤ pc → ¬ ex pc) (_ : 7 * (11 - gI σ rm 19) - 3 ≤ (n : Int)) {Q : Sg → Unit → Prop} {X : Sg → String → Prop} (_ : ∀ (σ' : Sg) (r : Unit), Rg ra jx rm σ' → FdO ra jx rm da o [15, 16] [4, 5, 7, 8, 9, 10, 11, 12, 13, 19] [15, 16] σ σ' → ((∃ dq : Int → Int, (∀ pc, pc ≤ gI σ da 17 → dq pc = dp pc) ∧ PgI jx da σ' dq ex ∧ dq (gI σ' da 17) = dp (gI σ da 17) + 1) ∧ PsI rm σ' ∧ gI σ' da 17 - 4 * cn rm σ' ≤ gI σ da 17 - 4 * cn rm σ ∧ gI σ' rm 19 = gI σ rm 19 ∧ gI σ da 17 < gI σ' da 17 ∧ (∀ k, k ≠ 17 → gI σ' da k = gI σ da k)) → Q σ' r) (_ : ∀ (σ' : Sg) (E : String), Rg ra jx rm σ' → FdO ra jx rm da o [15, 16] [4, 5, 7, 8, 9, 10, 11, 12, 13, 19] [15, 16] σ σ' → (E = "StreamHouseModel$Fault") → X σ' E), wrec ra jx rm n 3 v1 σ Q X) (ih4 : ∀ {da : Nat} {o : Int} {dp : Int → Int} {ex : Int → Prop} (_ : Geo ra jx rm) {σ : Sg} {v1 : Int} (_ : Rg ra jx rm σ) (_ : PsI rm σ) (_ : gP σ rm 18 = some da) (_ : da = ra 15 ∨ da = ra 16) (_ : 0 ≤ v1 ∧ v1 < 16) (_ : 0 ≤ gI σ da 17 ∧ gI σ da 17 ≤ 4 * cn rm σ) (_ : PgI jx da σ dp ex) (_ : 0 ≤ dp (gI σ da 17) ∧ dp (gI σ da 17) ≤ 3 * gI σ rm 19 + 1) (_ : ∀ pc, gI σ da 17 ≤ pc → ¬ ex pc) (_ : 7 * (11 - gI σ rm 19) - 4 ≤ (n : Int)) {Q : Sg → Unit → Prop} {X : Sg → String → Prop} (_ : ∀ (σ' : Sg) (r : Unit), Rg ra jx rm σ' → FdO ra jx rm da o [15, 16] [4, 5, 7, 8, 9, 10, 11, 12, 13, 19] [15, 16] σ σ' → ((∃ dq : Int → Int, (∀ pc, pc ≤ gI σ da 17 → dq pc = dp pc) ∧ PgI jx da σ' dq ex ∧ dq (gI σ' da 17) = dp (gI σ da 17) + 1) ∧ PsI rm σ' ∧ gI σ' da 17 - 4 * cn rm σ' ≤ gI σ da 17 - 4 * cn rm σ ∧ gI σ' rm 19 = gI σ rm 19 ∧ gI σ da 17 < gI σ' da 17 ∧ (∀ k, k ≠ 17 → gI σ' da k = gI σ da k)) → Q σ' r) (_ : ∀ (σ' : Sg) (E : String), Rg ra jx rm σ' → FdO ra jx rm da o [15, 16] [4, 5, 7, 8, 9, 10, 11, 12, 13, 19] [15, 16] σ σ' → (E = "StreamHouseModel$Fault") → X σ' E), wrec ra jx rm n 4 v1 σ Q X) (ih5 : ∀ {da : Nat} {o : Int} {dp : Int → Int} {ex : Int → Prop} (_ : Geo ra jx rm) {σ : Sg} {v1 : Int} (_ : Rg ra jx rm σ) (_ : PsI rm σ) (_ : gP σ rm 18 = some da) (_ : da = ra 15 ∨ da = ra 16) (_ : 0 ≤ v1 ∧ v1 < 16) (_ : 0 ≤ gI σ da 17 ∧ gI σ da 17 ≤ 4 * cn rm σ) (_ : PgI jx da σ dp ex) (_ : 0 ≤ dp (gI σ da 17) ∧ dp (gI σ da 17) ≤ 3 * gI σ rm 19 + 2) (_ : ∀ pc, gI σ da 17 ≤ pc → ¬ ex pc) (_ : 7 * (11 - gI σ rm 19) - 5 ≤ (n : Int)) {Q : Sg → Unit → Prop} {X : Sg → String → Prop} (_ : ∀ (σ' : Sg) (r : Unit), Rg ra jx rm σ' → FdO ra jx rm da o [15, 16] [4, 5, 7, 8, 9, 10, 11, 12, 13, 19] [15, 16] σ σ' → ((∃ dq : Int → Int, (∀ pc, pc ≤ gI σ da 17 → dq pc = dp pc) ∧ PgI jx da σ' dq ex ∧ dq (gI σ' da 17) = dp (gI σ da 17) + 1) ∧ PsI rm σ' ∧ gI σ' da 17 - 4 * cn rm σ' ≤ gI σ da 17 - 4 * cn rm σ ∧ gI σ' rm 19 = gI σ rm 19 ∧ gI σ da 17 < gI σ' da 17 ∧ (∀ k, k ≠ 17 → gI σ' da k = gI σ da k)) → Q σ' r) (_ : ∀ (σ' : Sg) (E : String), Rg ra jx rm σ' → FdO ra jx rm da o [15, 16] [4, 5, 7, 8, 9, 10, 11, 12, 13, 19] [15, 16] σ σ' → (E = "StreamHouseModel$Fault") → X σ' E), wrec ra jx rm n 5 v1 σ Q X) (ih6 : ∀ {da : Nat} {o : Int} {dp : Int → Int} {ex : Int → Prop} (_ : Geo ra jx rm) {σ : Sg} {v1 : Int} (_ : Rg ra jx rm σ) (_ : PsI rm σ) (_ : gP σ rm 18 = some da) (_ : da = ra 15 ∨ da = ra 16) (_ : 0 ≤ v1 ∧ v1 < 16) (_ : 0 ≤ gI σ da 17 ∧ gI σ da 17 ≤ 4 * cn rm σ) (_ : PgI jx da σ dp ex) (_ : 0 ≤ dp (gI σ da 17) ∧ dp (gI σ da 17) ≤ 3 * gI σ rm 19 + 3) (_ : ∀ pc, gI σ da 17 ≤ pc → ¬ ex pc) (_ : 7 * (11 - gI σ rm 19) - 6 ≤ (n : Int)) {Q : Sg → Unit → Prop} {X : Sg → String → Prop} (_ : ∀ (σ' : Sg) (r : Unit), Rg ra jx rm σ' → FdO ra jx rm da o [15, 16] [4, 5, 7, 8, 9, 10, 11, 12, 13, 19] [15, 16] σ σ' → ((∃ dq : Int → Int, (∀ pc, pc ≤ gI σ da 17 → dq pc = dp pc) ∧ PgI jx da σ' dq ex ∧ dq (gI σ' da 17) = dp (gI σ da 17) + 1) ∧ PsI rm σ' ∧ gI σ' da 17 - 4 * cn rm σ' ≤ gI σ da 17 - 4 * cn rm σ ∧ gI σ' rm 19 = gI σ rm 19 ∧ gI σ da 17 < gI σ' da 17 ∧ (∀ k, k ≠ 17 → gI σ' da k = gI σ da k)) → Q σ' r) (_ : ∀ (σ' : Sg) (E : String), Rg ra jx rm σ' → FdO ra jx rm da o [15, 16] [4, 5, 7, 8, 9, 10, 11, 12, 13, 19] [15, 16] σ σ' → (E = "StreamHouseModel$Fault") → X σ' E), wrec ra jx rm n 6 v1 σ Q X) {Q : Sg → Unit → Prop} {X : Sg → String → Prop} (hQ : ∀ (σ' : Sg) (r : Unit), Rg ra jx rm σ' → FdO ra jx rm da o [15, 16] [4, 5, 7, 8, 9, 10, 11, 12, 13, 19] [15, 16] σ σ' → ((∃ dq : Int → Int, (∀ pc, pc ≤ gI σ da 17 → dq pc = dp pc) ∧ PgI jx da σ' dq ex ∧ dq (gI σ' da 17) = dp (gI σ da 17) + 1) ∧ PsI rm σ' ∧ gI σ' da 17 - 4 * cn rm σ' ≤ gI σ da 17 - 4 * cn rm σ ∧ gI σ' rm 19 = gI σ rm 19 ∧ gI σ da 17 < gI σ' da 17 ∧ (∀ k, k ≠ 17 → gI σ' da k = gI σ da k)) → Q σ' r) (hX : ∀ (σ' : Sg) (E : String), Rg ra jx rm σ' → FdO ra jx rm da o [15, 16] [4, 5, 7, 8, 9, 10, 11, 12, 13, 19] [15, 16] σ σ' → (E = "StreamHouseModel$Fault") → X σ' E) : w_X16_either_0 ra jx rm (wrec ra jx rm n) Q X σ v1 := by
  obtain ⟨g1, g2, g3, g4, g5, g6, g7, g8⟩ := id g
  have fσ : FdO ra jx rm da o [15, 16] [4, 5, 7, 8, 9, 10, 11, 12, 13, 19] [15, 16] σ σ := FdO.rf
  have hdm : ¬ da = rm := by rcases hda with q | q <;> rw [q] <;> exact g2 _
  have hmd : ¬ rm = da := fun q => hdm q.symm
  have hdj : ∀ a k, ¬ da = jx a k := fun a k => by rcases hda with q | q <;> rw [q] <;> exact g5 a k _
  have hjd : ∀ a k, ¬ jx a k = da := fun a k => by rcases hda with q | q <;> rw [q] <;> exact g4 a k _
  have q06 := rσ.2.1 6; simp only [rgS] at q06
  have q19 := rσ.2.1 19; simp only [rgS] at q19
  have ps9 := hps; have pg9 := hpg
  have okk : ∀ k, k ≠ 17 → gI σ da k = gI σ da k := fun _ _ => rfl
  have le6 := PsI.le hps
  unfold w_X16_either_0
  try simp only [forall_eq, rII, rIJ, rIP, rJJ, rJI, rJP, rPP, rPI, rPJ, g1, g2, g3, g4, g5, g6, g7, g8, Nat.reduceEqDiff, Nat.reduceAdd, false_and, and_false, true_and, and_true, reduceIte, nZ0, nZ1, hdm, hmd, hdj, hjd]
  refine ih2 (o := o) (dp := dp) (ex := ex) g rσ (by first | exact ps9 | exact PsIJ (PsIJ ps9)) (by (try simp only [rII, rIJ, rIP, rJJ, rJI, rJP, rPP, rPI, rPJ, g1, g2, g3, g4, g5, g6, g7, g8, Nat.reduceEqDiff, Nat.reduceAdd, false_and, and_false, true_and, and_true, reduceIte, nZ0, nZ1, hdm, hmd, hdj, hjd]) <;> first | exact hd | (rw [fσ.2.2.2.1 (by decide)]; exact hd)) hda h1 (by (try simp only [rII, rIJ, rIP, rJJ, rJI, rJP, rPP, rPI, rPJ, g1, g2, g3, g4, g5, g6, g7, g8, Nat.reduceEqDiff, Nat.reduceAdd, false_and, and_false, true_and, and_true, reduceIte, nZ0, nZ1, hdm, hmd, hdj, hjd]) <;> omega) (by exact pg9) (by (try simp only [rII, rIJ, rIP, rJJ, rJI, rJP, rPP, rPI, rPJ, g1, g2, g3, g4, g5, g6, g7, g8, Nat.reduceEqDiff, Nat.reduceAdd, false_and, and_false, true_and, and_true, reduceIte, nZ0, nZ1, hdm, hmd, hdj, hjd]) <;> omega) (by (try simp only [rII, rIJ, rIP, rJJ, rJI, rJP, rPP, rPI, rPJ, g1, g2, g3, g4, g5, g6, g7, g8, Nat.reduceEqDiff, Nat.reduceAdd, false_and, and_false, true_and, and_true, reduceIte, nZ0, nZ1, hdm, hmd, hdj, hjd]) <;> exact fun pc hp => hex pc (by omega)) (by (try simp only [rII, rIJ, rIP, rJJ, rJI, rJP, rPP, rPI, rPJ, g1, g2, g3, g4, g5, g6, g7, g8, Nat.reduceEqDiff, Nat.reduceAdd, false_and, and_false, true_and, and_true, reduceIte, nZ0, nZ1, hdm, hmd, hdj, hjd]) <;> omega) (fun σ45 _ rσ45 fc p1 => ?_) (fun σx E rx fx px => hX _ _ rx (FdO.tr fσ (FdO.mor (fx) (by decide) (by decide) (by decide))) px)
  have fσ45 : FdO ra jx rm da o [15, 16] [4, 5, 7, 8, 9, 10, 11, 12, 13, 19] [15, 16] σ σ45 := FdO.tr fσ (FdO.mor (fc) (by decide) (by decide) (by decide))
  obtain ⟨⟨dq9, ag9, pg9, de9⟩, ps9, cq9, n19, nl9, ok9⟩ := p1
  have okk : ∀ k, k ≠ 17 → gI σ45 da k = gI σ da k := fun k hk => (ok9 k hk).trans (by (try simp only [rII, rIJ, rIP, rJJ, rJI, rJP, rPP, rPI, rPJ, g1, g2, g3, g4, g5, g6, g7, g8, Nat.reduceEqDiff, Nat.reduceAdd, false_and, and_false, true_and, and_true, reduceIte, nZ0, nZ1, hdm, hmd, hdj, hjd]) <;> exact okk k hk)
  (try simp only [rII, rIJ, rIP, rJJ, rJI, rJP, rPP, rPI, rPJ, g1, g2, g3, g4, g5, g6, g7, g8, Nat.reduceEqDiff, Nat.reduceAdd, false_and, and_false, true_and, and_true, reduceIte, nZ0, nZ1, hdm, hmd, hdj, hjd] at cq9 n19 nl9 ag9 de9)
  have eo9 : gI σ da 17 = gI σ da 17 := by omega
  (try rw [eo9] at de9)
  have ag9 : ∀ pc, pc ≤ gI σ da 17 → dq9 pc = dp pc := fun pc hp => ag9 pc (by omega)
  have le6 := PsI.le ps9
  have s6n := (fσ45.2.1 6 (by decide)).1
  have sσ45_6 := fσ45.2.1 6 (by decide)
  have pσ45 := fσ45.2.2.2.1 (by decide)
  try simp only [rII, rIJ, rIP, rJJ, rJI, rJP, rPP, rPI, rPJ, g1, g2, g3, g4, g5, g6, g7, g8, Nat.reduceEqDiff, Nat.reduceAdd, false_and, and_false, true_and, and_true, reduceIte, nZ0, nZ1, hdm, hmd, hdj, hjd, sσ45_6.1, sσ45_6.2, pσ45] at p1
  try simp only [forall_eq, rII, rIJ, rIP, rJJ, rJI, rJP, rPP, rPI, rPJ, g1, g2, g3, g4, g5, g6, g7, g8, Nat.reduceEqDiff, Nat.reduceAdd, false_and, and_false, true_and, and_true, reduceIte, nZ0, nZ1, hdm, hmd, hdj, hjd, sσ45_6.1, sσ45_6.2, pσ45]
  refine s2_X16_see g rσ45 (by first | exact ps9 | exact PsIJ (PsIJ ps9)) (fun σ46 _ rσ46 fc p2 => ?_) (fun σx E rx fx px => hX _ _ rx (FdO.tr fσ45 (FdO.mor (Fr.d fx hda (by decide)) (by decide) (by decide) (by decide))) px)
  have fσ46 : FdO ra jx rm da o [15, 16] [4, 5, 7, 8, 9, 10, 11, 12, 13, 19] [15, 16] σ σ46 := FdO.tr fσ45 (FdO.mor (Fr.d fc hda (by decide)) (by decide) (by decide) (by decide))
  have cσ46_19 := fc.2.1 19 (by decide)
  have gσ46_16 := fun a => fc.2.2.1 a 16
  have ps9 := p2.1; have cq9 := p2.2
  have pg9 := PgI.fr pg9 hda fc (by decide)
  have n17 := congrFun (Fr.ob fc hda (by decide)) 17
  (try simp only [rII, rIJ, rIP, rJJ, rJI, rJP, rPP, rPI, rPJ, g1, g2, g3, g4, g5, g6, g7, g8, Nat.reduceEqDiff, Nat.reduceAdd, false_and, and_false, true_and, and_true, reduceIte, nZ0, nZ1, hdm, hmd, hdj, hjd, sσ45_6.1, sσ45_6.2, pσ45] at n17)
  have okk : ∀ k, k ≠ 17 → gI σ46 da k = gI σ da k := fun k hk => (congrFun (Fr.ob fc hda (by decide)) k).trans (by (try simp only [rII, rIJ, rIP, rJJ, rJI, rJP, rPP, rPI, rPJ, g1, g2, g3, g4, g5, g6, g7, g8, Nat.reduceEqDiff, Nat.reduceAdd, false_and, and_false, true_and, and_true, reduceIte, nZ0, nZ1, hdm, hmd, hdj, hjd, sσ45_6.1, sσ45_6.2, pσ45]) <;> exact okk k hk)
  have n19 := (fc.2.1 19 (by decide)).1
  (try simp only [rII, rIJ, rIP, rJJ, rJI, rJP, rPP, rPI, rPJ, g1, g2, g3, g4, g5, g6, g7, g8, Nat.reduceEqDiff, Nat.reduceAdd, false_and, and_false, true_and, and_true, reduceIte, nZ0, nZ1, hdm, hmd, hdj, hjd, sσ45_6.1, sσ45_6.2, pσ45] at n19)
  have le6 := PsI.le ps9
  have s6n := (fσ46.2.1 6 (by decide)).1
  have ded : dq9 (gI σ46 da 17) = dp (gI σ da 17) + 1 := by rw [n17]; exact de9
  have de9 := ded
  have sσ46_6 := fσ46.2.1 6 (by decide)
  have pσ46 := fσ46.2.2.2.1 (by decide)
  try simp only [rII, rIJ, rIP, rJJ, rJI, rJP, rPP, rPI, rPJ, g1, g2, g3, g4, g5, g6, g7, g8, Nat.reduceEqDiff, Nat.reduceAdd, false_and, and_false, true_and, and_true, reduceIte, nZ0, nZ1, hdm, hmd, hdj, hjd, sσ46_6.1, sσ46_6.2, pσ46, cσ46_19.1, cσ46_19.2, fun a => (gσ46_16 a).1, fun a => (gσ46_16 a).2] at p2
  try simp only [forall_eq, rII, rIJ, rIP, rJJ, rJI, rJP, rPP, rPI, rPJ, g1, g2, g3, g4, g5, g6, g7, g8, Nat.reduceEqDiff, Nat.reduceAdd, false_and, and_false, true_and, and_true, reduceIte, nZ0, nZ1, hdm, hmd, hdj, hjd, sσ46_6.1, sσ46_6.2, pσ46, cσ46_19.1, cσ46_19.2, fun a => (gσ46_16 a).1, fun a => (gσ46_16 a).2]
  have q4 := rσ.2.1 19; simp only [rgS, hdm, hmd, hdj, hjd] at q4
  have q6 := rσ.2.1 6; simp only [rgS, hdm, hmd, hdj, hjd] at q6
  have L9 : ∀ (fu9 : Nat) (τ9 : Sg), Rg ra jx rm τ9 → FdO ra jx rm da o [15, 16] [4, 5, 7, 8, 9, 10, 11, 12, 13, 19] [15, 16] σ τ9 → ((∃ dq : Int → Int, (∀ pc, pc ≤ gI σ da 17 → dq pc = dp pc) ∧ PgI jx da τ9 dq ex ∧ dq (gI τ9 da 17) = dp (gI σ da 17) + 1) ∧ (PsI rm τ9 ∧ gI τ9 rm 8 = 1) ∧ (gI τ9 da 17 - 4 * cn rm τ9 ≤ gI σ da 17 - 4 * cn rm σ ∧ gI τ9 rm 19 = gI σ rm 19 ∧ gI σ da 17 < gI τ9 da 17) ∧ (∀ k, k ≠ 17 → gI τ9 da k = gI σ da k)) → ((gI σ rm 6 - cn rm τ9).toNat) < fu9 → wl_X16_either_9 ra jx rm (wrec ra jx rm n) Q X fu9 τ9 v1 := by
    intro fu9
    induction fu9 with
    | zero => intro τ9 _ _ _ h9; omega
    | succ fu9 ih9 =>
      intro τ9 rτ9 fτ9 hi9 hm9
      unfold wl_X16_either_9
      have sτ9_6 := fτ9.2.1 6 (by decide)
      have pτ9 := fτ9.2.2.2.1 (by decide)
      unfold w_X16_either_9
      try simp only [forall_eq, rII, rIJ, rIP, rJJ, rJI, rJP, rPP, rPI, rPJ, g1, g2, g3, g4, g5, g6, g7, g8, Nat.reduceEqDiff, Nat.reduceAdd, false_and, and_false, true_and, and_true, reduceIte, nZ0, nZ1, hdm, hmd, hdj, hjd, sτ9_6.1, sτ9_6.2, pτ9]
      obtain ⟨⟨dq9, ag9, pg9, de9⟩, ⟨ps9, s8⟩, ⟨i1, i2, i3⟩, okk⟩ := hi9
      have le6 := PsI.le ps9
      have s6n := (fτ9.2.1 6 (by decide)).1
      have q7 := rτ9.2.1 9; simp only [rgS, hdm, hmd, hdj, hjd] at q7
      split
      · rename_i hc15
        skip
        unfold w_X16_either_103
        try simp only [forall_eq, rII, rIJ, rIP, rJJ, rJI, rJP, rPP, rPI, rPJ, g1, g2, g3, g4, g5, g6, g7, g8, Nat.reduceEqDiff, Nat.reduceAdd, false_and, and_false, true_and, and_true, reduceIte, nZ0, nZ1, hdm, hmd, hdj, hjd, sτ9_6.1, sτ9_6.2, pτ9]
        refine hQ _ _ ?_ ?_ ?_
        · exact rτ9
        · exact fτ9
        · exact ⟨⟨dq9, ag9, pg9, by omega⟩, ps9, by omega, by omega, by omega, okk⟩
      · rename_i hc15
        skip
        unfold w_X16_either_18
        try simp only [forall_eq, rII, rIJ, rIP, rJJ, rJI, rJP, rPP, rPI, rPJ, g1, g2, g3, g4, g5, g6, g7, g8, Nat.reduceEqDiff, Nat.reduceAdd, false_and, and_false, true_and, and_true, reduceIte, nZ0, nZ1, hdm, hmd, hdj, hjd, sτ9_6.1, sτ9_6.2, pτ9]
        refine s2_X16_take g rτ9 (by first | exact ps9 | exact PsIJ (PsIJ ps9)) (by omega) (by omega) (fun σ47 _ rσ47 fc p8 => ?_)
        have fσ47 : FdO ra jx rm da o [15, 16] [4, 5, 7, 8, 9, 10, 11, 12, 13, 19] [15, 16] σ σ47 := FdO.tr fτ9 (FdO.mor (Fr.d fc hda (by decide)) (by decide) (by decide) (by decide))
        have cσ47_9 := fc.2.1 9 (by decide)
        have cσ47_19 := fc.2.1 19 (by decide)
        have gσ47_16 := fun a => fc.2.2.1 a 16
        have ps9 := p8.1; have cq9 := p8.2
        have pg9 := PgI.fr pg9 hda fc (by decide)
        have n17 := congrFun (Fr.ob fc hda (by decide)) 17
        (try simp only [rII, rIJ, rIP, rJJ, rJI, rJP, rPP, rPI, rPJ, g1, g2, g3, g4, g5, g6, g7, g8, Nat.reduceEqDiff, Nat.reduceAdd, false_and, and_false, true_and, and_true, reduceIte, nZ0, nZ1, hdm, hmd, hdj, hjd, sτ9_6.1, sτ9_6.2, pτ9] at n17)
        have okk : ∀ k, k ≠ 17 → gI σ47 da k = gI σ da k := fun k hk => (congrFun (Fr.ob fc hda (by decide)) k).trans (by (try simp only [rII, rIJ, rIP, rJJ, rJI, rJP, rPP, rPI, rPJ, g1, g2, g3, g4, g5, g6, g7, g8, Nat.reduceEqDiff, Nat.reduceAdd, false_and, and_false, true_and, and_true, reduceIte, nZ0, nZ1, hdm, hmd, hdj, hjd, sτ9_6.1, sτ9_6.2, pτ9]) <;> exact okk k hk)
        have n19 := (fc.2.1 19 (by decide)).1
        have le6 := PsI.le ps9
        have s6n := (fσ47.2.1 6 (by decide)).1
        have ded : dq9 (gI σ47 da 17) = dp (gI σ da 17) + 1 := by rw [n17]; exact de9
        have de9 := ded
        have sσ47_6 := fσ47.2.1 6 (by decide)
        have pσ47 := fσ47.2.2.2.1 (by decide)
        try simp only [rII, rIJ, rIP, rJJ, rJI, rJP, rPP, rPI, rPJ, g1, g2, g3, g4, g5, g6, g7, g8, Nat.reduceEqDiff, Nat.reduceAdd, false_and, and_false, true_and, and_true, reduceIte, nZ0, nZ1, hdm, hmd, hdj, hjd, sσ47_6.1, sσ47_6.2, pσ47, cσ47_9.1, cσ47_9.2, cσ47_19.1, cσ47_19.2, fun a => (gσ47_16 a).1, fun a => (gσ47_16 a).2] at p8
        try simp only [forall_eq, rII, rIJ, rIP, rJJ, rJI, rJP, rPP, rPI, rPJ, g1, g2, g3, g4, g5, g6, g7, g8, Nat.reduceEqDiff, Nat.reduceAdd, false_and, and_false, true_and, and_true, reduceIte, nZ0, nZ1, hdm, hmd, hdj, hjd, sσ47_6.1, sσ47_6.2, pσ47, cσ47_9.1, cσ47_9.2, cσ47_19.1, cσ47_19.2, fun a => (gσ47_16 a).1, fun a => (gσ47_16 a).2]
        refine ⟨da, by exact hd, hda, ?_⟩
        refine s2_X15_step (o := o) g rσ47 hda (by omega) (by omega) (fun σ49 r50 rσ49 fc p9 => ?_)
        have fσ49 : FdO ra jx rm da o [15, 16] [4, 5, 7, 8, 9, 10, 11, 12, 13, 19] [15, 16] σ σ49 := FdO.tr fσ47 (FdO.mor (fc) (by decide) (by decide) (by decide))
        have cσ49_8 := fc.2.1 8 (by decide)
        have cσ49_9 := fc.2.1 9 (by decide)
        have cσ49_19 := fc.2.1 19 (by decide)
        have A0 := p9.1; have A1 := p9.2.1; have A2 := p9.2.2.1; have A3 := p9.2.2.2.1
        have okk : ∀ k, k ≠ 17 → gI σ49 da k = gI σ da k := fun k hk => (p9.2.2.2.2 k hk).trans (okk k hk)
        have pf9 := PsI.frj ps9 (FdO.fj fc) (by decide)
        have ps9 := pf9.1; have cq9 := pf9.2
        clear pf9 p9
        have n19 := (fc.2.1 19 (by decide)).1
        have le6 := PsI.le ps9
        have s6n := (fσ49.2.1 6 (by decide)).1
        have hd9 : 0 ≤ dp (gI σ da 17) ∧ dp (gI σ da 17) ≤ 100 := by omega
        have hNp : 0 ≤ gI σ47 da 17 := by omega
        obtain ⟨dqB, agB, pg9, deB⟩ := PgI.pendE (dp (gI σ da 17)) pg9 hNp A1 A2 A3
        have sσ49_6 := fσ49.2.1 6 (by decide)
        have pσ49 := fσ49.2.2.2.1 (by decide)
        try simp only [rII, rIJ, rIP, rJJ, rJI, rJP, rPP, rPI, rPJ, g1, g2, g3, g4, g5, g6, g7, g8, Nat.reduceEqDiff, Nat.reduceAdd, false_and, and_false, true_and, and_true, reduceIte, nZ0, nZ1, hdm, hmd, hdj, hjd, sσ49_6.1, sσ49_6.2, pσ49, cσ47_9.1, cσ47_9.2, cσ47_19.1, cσ47_19.2, fun a => (gσ47_16 a).1, fun a => (gσ47_16 a).2, cσ49_8.1, cσ49_8.2, cσ49_9.1, cσ49_9.2, cσ49_19.1, cσ49_19.2] at p9
        try simp only [forall_eq, rII, rIJ, rIP, rJJ, rJI, rJP, rPP, rPI, rPJ, g1, g2, g3, g4, g5, g6, g7, g8, Nat.reduceEqDiff, Nat.reduceAdd, false_and, and_false, true_and, and_true, reduceIte, nZ0, nZ1, hdm, hmd, hdj, hjd, sσ49_6.1, sσ49_6.2, pσ49, cσ47_9.1, cσ47_9.2, cσ47_19.1, cσ47_19.2, fun a => (gσ47_16 a).1, fun a => (gσ47_16 a).2, cσ49_8.1, cσ49_8.2, cσ49_9.1, cσ49_9.2, cσ49_19.1, cσ49_19.2]
        refine ih2 (o := o) (dp := dqB) (ex := fun pc => ex pc ∨ pc = gI σ47 da 17) g rσ49 (by first | exact ps9 | exact PsIJ (PsIJ ps9)) (by (try simp only [rII, rIJ, rIP, rJJ, rJI, rJP, rPP, rPI, rPJ, g1, g2, g3, g4, g5, g6, g7, g8, Nat.reduceEqDiff, Nat.reduceAdd, false_and, and_false, true_and, and_true, reduceIte, nZ0, nZ1, hdm, hmd, hdj, hjd, sσ49_6.1, sσ49_6.2, pσ49, cσ47_9.1, cσ47_9.2, cσ47_19.1, cσ47_19.2, fun a => (gσ47_16 a).1, fun a => (gσ47_16 a).2, cσ49_8.1, cσ49_8.2, cσ49_9.1, cσ49_9.2, cσ49_19.1, cσ49_19.2]) <;> first | exact hd | (rw [fσ49.2.2.2.1 (by decide)]; exact hd)) hda h1 (by (try simp only [rII, rIJ, rIP, rJJ, rJI, rJP, rPP, rPI, rPJ, g1, g2, g3, g4, g5, g6, g7, g8, Nat.reduceEqDiff, Nat.reduceAdd, false_and, and_false, true_and, and_true, reduceIte, nZ0, nZ1, hdm, hmd, hdj, hjd, sσ49_6.1, sσ49_6.2, pσ49, cσ47_9.1, cσ47_9.2, cσ47_19.1, cσ47_19.2, fun a => (gσ47_16 a).1, fun a => (gσ47_16 a).2, cσ49_8.1, cσ49_8.2, cσ49_9.1, cσ49_9.2, cσ49_19.1, cσ49_19.2]) <;> omega) (by exact pg9) (by (try simp only [rII, rIJ, rIP, rJJ, rJI, rJP, rPP, rPI, rPJ, g1, g2, g3, g4, g5, g6, g7, g8, Nat.reduceEqDiff, Nat.reduceAdd, false_and, and_false, true_and, and_true, reduceIte, nZ0, nZ1, hdm, hmd, hdj, hjd, sσ49_6.1, sσ49_6.2, pσ49, cσ47_9.1, cσ47_9.2, cσ47_19.1, cσ47_19.2, fun a => (gσ47_16 a).1, fun a => (gσ47_16 a).2, cσ49_8.1, cσ49_8.2, cσ49_9.1, cσ49_9.2, cσ49_19.1, cσ49_19.2]) <;> omega) (by (try simp only [rII, rIJ, rIP, rJJ, rJI, rJP, rPP, rPI, rPJ, g1, g2, g3, g4, g5, g6, g7, g8, Nat.reduceEqDiff, Nat.reduceAdd, false_and, and_false, true_and, and_true, reduceIte, nZ0, nZ1, hdm, hmd, hdj, hjd, sσ49_6.1, sσ49_6.2, pσ49, cσ47_9.1, cσ47_9.2, cσ47_19.1, cσ47_19.2, fun a => (gσ47_16 a).1, fun a => (gσ47_16 a).2, cσ49_8.1, cσ49_8.2, cσ49_9.1, cσ49_9.2, cσ49_19.1, cσ49_19.2]) <;> exact fun pc hp q => q.elim (hex pc (by omega)) (fun z => by omega)) (by (try simp only [rII, rIJ, rIP, rJJ, rJI, rJP, rPP, rPI, rPJ, g1, g2, g3, g4, g5, g6, g7, g8, Nat.reduceEqDiff, Nat.reduceAdd, false_and, and_false, true_and, and_true, reduceIte, nZ0, nZ1, hdm, hmd, hdj, hjd, sσ49_6.1, sσ49_6.2, pσ49, cσ47_9.1, cσ47_9.2, cσ47_19.1, cσ47_19.2, fun a => (gσ47_16 a).1, fun a => (gσ47_16 a).2, cσ49_8.1, cσ49_8.2, cσ49_9.1, cσ49_9.2, cσ49_19.1, cσ49_19.2]) <;> omega) (fun σ51 _ rσ51 fc p10 => ?_) (fun σx E rx fx px => hX _ _ rx (FdO.tr fσ49 (FdO.mor (fx) (by decide) (by decide) (by decide))) px)
        have fσ51 : FdO ra jx rm da o [15, 16] [4, 5, 7, 8, 9, 10, 11, 12, 13, 19] [15, 16] σ σ51 := FdO.tr fσ49 (FdO.mor (fc) (by decide) (by decide) (by decide))
        obtain ⟨⟨dqC, agC, pgC, deC⟩, ps9, cq9, n19, nlC, ok9⟩ := p10
        have okk : ∀ k, k ≠ 17 → gI σ51 da k = gI σ da k := fun k hk => (ok9 k hk).trans (okk k hk)
        have sC := (fc.2.2.2.2.2.1 15 (gI σ47 da 17).toNat (by simp only [Jk]; omega)).1
        clear ok9
        have le6 := PsI.le ps9
        have s6n := (fσ51.2.1 6 (by decide)).1
        have sσ51_6 := fσ51.2.1 6 (by decide)
        have pσ51 := fσ51.2.2.2.1 (by decide)
        try simp only [rII, rIJ, rIP, rJJ, rJI, rJP, rPP, rPI, rPJ, g1, g2, g3, g4, g5, g6, g7, g8, Nat.reduceEqDiff, Nat.reduceAdd, false_and, and_false, true_and, and_true, reduceIte, nZ0, nZ1, hdm, hmd, hdj, hjd, sσ51_6.1, sσ51_6.2, pσ51, cσ47_9.1, cσ47_9.2, cσ47_19.1, cσ47_19.2, fun a => (gσ47_16 a).1, fun a => (gσ47_16 a).2, cσ49_8.1, cσ49_8.2, cσ49_9.1, cσ49_9.2, cσ49_19.1, cσ49_19.2] at p10
        try simp only [forall_eq, rII, rIJ, rIP, rJJ, rJI, rJP, rPP, rPI, rPJ, g1, g2, g3, g4, g5, g6, g7, g8, Nat.reduceEqDiff, Nat.reduceAdd, false_and, and_false, true_and, and_true, reduceIte, nZ0, nZ1, hdm, hmd, hdj, hjd, sσ51_6.1, sσ51_6.2, pσ51, cσ47_9.1, cσ47_9.2, cσ47_19.1, cσ47_19.2, fun a => (gσ47_16 a).1, fun a => (gσ47_16 a).2, cσ49_8.1, cσ49_8.2, cσ49_9.1, cσ49_9.2, cσ49_19.1, cσ49_19.2]
        refine ⟨da, by exact hd, hda, ?_⟩
        refine s2_X15_step (o := o) g rσ51 hda (by omega) (by omega) (fun σ53 r54 rσ53 fc p11 => ?_)
        have fσ53 : FdO ra jx rm da o [15, 16] [4, 5, 7, 8, 9, 10, 11, 12, 13, 19] [15, 16] σ σ53 := FdO.tr fσ51 (FdO.mor (fc) (by decide) (by decide) (by decide))
        have cσ53_8 := fc.2.1 8 (by decide)
        have cσ53_9 := fc.2.1 9 (by decide)
        have cσ53_19 := fc.2.1 19 (by decide)
        have T0 := p11.1; have T1 := p11.2.1; have T2 := p11.2.2.1; have T3 := p11.2.2.2.1
        have okk : ∀ k, k ≠ 17 → gI σ53 da k = gI σ da k := fun k hk => (p11.2.2.2.2 k hk).trans (okk k hk)
        have pf9 := PsI.frj ps9 (FdO.fj fc) (by decide)
        have ps9 := pf9.1; have cq9 := pf9.2
        clear pf9 p11
        have n19 := (fc.2.1 19 (by decide)).1
        have le6 := PsI.le ps9
        have s6n := (fσ53.2.1 6 (by decide)).1
        have sσ53_6 := fσ53.2.1 6 (by decide)
        have pσ53 := fσ53.2.2.2.1 (by decide)
        try simp only [rII, rIJ, rIP, rJJ, rJI, rJP, rPP, rPI, rPJ, g1, g2, g3, g4, g5, g6, g7, g8, Nat.reduceEqDiff, Nat.reduceAdd, false_and, and_false, true_and, and_true, reduceIte, nZ0, nZ1, hdm, hmd, hdj, hjd, sσ53_6.1, sσ53_6.2, pσ53, cσ47_9.1, cσ47_9.2, cσ47_19.1, cσ47_19.2, fun a => (gσ47_16 a).1, fun a => (gσ47_16 a).2, cσ49_8.1, cσ49_8.2, cσ49_9.1, cσ49_9.2, cσ49_19.1, cσ49_19.2, cσ53_8.1, cσ53_8.2, cσ53_9.1, cσ53_9.2, cσ53_19.1, cσ53_19.2] at p11
        try simp only [forall_eq, rII, rIJ, rIP, rJJ, rJI, rJP, rPP, rPI, rPJ, g1, g2, g3, g4, g5, g6, g7, g8, Nat.reduceEqDiff, Nat.reduceAdd, false_and, and_false, true_and, and_true, reduceIte, nZ0, nZ1, hdm, hmd, hdj, hjd, sσ53_6.1, sσ53_6.2, pσ53, cσ47_9.1, cσ47_9.2, cσ47_19.1, cσ47_19.2, fun a => (gσ47_16 a).1, fun a => (gσ47_16 a).2, cσ49_8.1, cσ49_8.2, cσ49_9.1, cσ49_9.2, cσ49_19.1, cσ49_19.2, cσ53_8.1, cσ53_8.2, cσ53_9.1, cσ53_9.2, cσ53_19.1, cσ53_19.2]
        refine ⟨da, by exact hd, hda, ?_⟩
        refine s2_X15_step (o := o) g rσ53 hda (by omega) (by omega) (fun σ56 r57 rσ56 fc p12 => ?_)
        have fσ56 : FdO ra jx rm da o [15, 16] [4, 5, 7, 8, 9, 10, 11, 12, 13, 19] [15, 16] σ σ56 := FdO.tr fσ53 (FdO.mor (fc) (by decide) (by decide) (by decide))
        have cσ56_8 := fc.2.1 8 (by decide)
        have cσ56_9 := fc.2.1 9 (by decide)
        have cσ56_19 := fc.2.1 19 (by decide)
        have L0 := p12.1; have L1 := p12.2.1; have L2 := p12.2.2.1; have L3 := p12.2.2.2.1
        have okk : ∀ k, k ≠ 17 → gI σ56 da k = gI σ da k := fun k hk => (p12.2.2.2.2 k hk).trans (okk k hk)
        have pf9 := PsI.frj ps9 (FdO.fj fc) (by decide)
        have ps9 := pf9.1; have cq9 := pf9.2
        clear pf9 p12
        have n19 := (fc.2.1 19 (by decide)).1
        have le6 := PsI.le ps9
        have s6n := (fσ56.2.1 6 (by decide)).1
        have sσ56_6 := fσ56.2.1 6 (by decide)
        have pσ56 := fσ56.2.2.2.1 (by decide)
        try simp only [rII, rIJ, rIP, rJJ, rJI, rJP, rPP, rPI, rPJ, g1, g2, g3, g4, g5, g6, g7, g8, Nat.reduceEqDiff, Nat.reduceAdd, false_and, and_false, true_and, and_true, reduceIte, nZ0, nZ1, hdm, hmd, hdj, hjd, sσ56_6.1, sσ56_6.2, pσ56, cσ47_9.1, cσ47_9.2, cσ47_19.1, cσ47_19.2, fun a => (gσ47_16 a).1, fun a => (gσ47_16 a).2, cσ49_8.1, cσ49_8.2, cσ49_9.1, cσ49_9.2, cσ49_19.1, cσ49_19.2, cσ53_8.1, cσ53_8.2, cσ53_9.1, cσ53_9.2, cσ53_19.1, cσ53_19.2, cσ56_8.1, cσ56_8.2, cσ56_9.1, cσ56_9.2, cσ56_19.1, cσ56_19.2] at p12
        try simp only [forall_eq, rII, rIJ, rIP, rJJ, rJI, rJP, rPP, rPI, rPJ, g1, g2, g3, g4, g5, g6, g7, g8, Nat.reduceEqDiff, Nat.reduceAdd, false_and, and_false, true_and, and_true, reduceIte, nZ0, nZ1, hdm, hmd, hdj, hjd, sσ56_6.1, sσ56_6.2, pσ56, cσ47_9.1, cσ47_9.2, cσ47_19.1, cσ47_19.2, fun a => (gσ47_16 a).1, fun a => (gσ47_16 a).2, cσ49_8.1, cσ49_8.2, cσ49_9.1, cσ49_9.2, cσ49_19.1, cσ49_19.2, cσ53_8.1, cσ53_8.2, cσ53_9.1, cσ53_9.2, cσ53_19.1, cσ53_19.2, cσ56_8.1, cσ56_8.2, cσ56_9.1, cσ56_9.2, cσ56_19.1, cσ56_19.2]
        refine ⟨da, by exact hd, hda, ?_⟩
        refine ⟨da, by exact hd, hda, ?_⟩
        refine s2_X15_step (o := o) g rσ56 hda (by omega) (by omega) (fun σ60 r61 rσ60 fc p13 => ?_)
        have fσ60 : FdO ra jx rm da o [15, 16] [4, 5, 7, 8, 9, 10, 11, 12, 13, 19] [15, 16] σ σ60 := FdO.tr fσ56 (FdO.mor (fc) (by decide) (by decide) (by decide))
        have cσ60_8 := fc.2.1 8 (by decide)
        have cσ60_9 := fc.2.1 9 (by decide)
        have cσ60_19 := fc.2.1 19 (by decide)
        have M0 := p13.1; have M1 := p13.2.1; have M2 := p13.2.2.1; have M3 := p13.2.2.2.1
        have okk : ∀ k, k ≠ 17 → gI σ60 da k = gI σ da k := fun k hk => (p13.2.2.2.2 k hk).trans (okk k hk)
        have pf9 := PsI.frj ps9 (FdO.fj fc) (by decide)
        have ps9 := pf9.1; have cq9 := pf9.2
        clear pf9 p13
        have n19 := (fc.2.1 19 (by decide)).1
        have le6 := PsI.le ps9
        have s6n := (fσ60.2.1 6 (by decide)).1
        have hN6 : gI σ60 da 17 ≤ 6000 := by omega
        obtain ⟨dqF, agF, pgI, deF⟩ := logE (y := r50) (e := r57) (t := r61) (d := dp (gI σ da 17)) (by decide) hNp hN6 hd9 de9 agB deB A1 A2 agC pgC deC nlC sC T1 T2 T3 L1 L2 L3 M1 M2 M3 A0 L0 M0
        have ag7 := ag9
        have ag9 : ∀ pc, pc ≤ gI σ da 17 → dqF pc = dp pc := fun pc hp => (agF pc (by omega)).trans (ag7 pc hp)
        have de9 := deF
        have okF := okk
        have sσ60_6 := fσ60.2.1 6 (by decide)
        have pσ60 := fσ60.2.2.2.1 (by decide)
        try simp only [rII, rIJ, rIP, rJJ, rJI, rJP, rPP, rPI, rPJ, g1, g2, g3, g4, g5, g6, g7, g8, Nat.reduceEqDiff, Nat.reduceAdd, false_and, and_false, true_and, and_true, reduceIte, nZ0, nZ1, hdm, hmd, hdj, hjd, sσ60_6.1, sσ60_6.2, pσ60, cσ47_9.1, cσ47_9.2, cσ47_19.1, cσ47_19.2, fun a => (gσ47_16 a).1, fun a => (gσ47_16 a).2, cσ49_8.1, cσ49_8.2, cσ49_9.1, cσ49_9.2, cσ49_19.1, cσ49_19.2, cσ53_8.1, cσ53_8.2, cσ53_9.1, cσ53_9.2, cσ53_19.1, cσ53_19.2, cσ56_8.1, cσ56_8.2, cσ56_9.1, cσ56_9.2, cσ56_19.1, cσ56_19.2, cσ60_8.1, cσ60_8.2, cσ60_9.1, cσ60_9.2, cσ60_19.1, cσ60_19.2] at p13
        try simp only [forall_eq, rII, rIJ, rIP, rJJ, rJI, rJP, rPP, rPI, rPJ, g1, g2, g3, g4, g5, g6, g7, g8, Nat.reduceEqDiff, Nat.reduceAdd, false_and, and_false, true_and, and_true, reduceIte, nZ0, nZ1, hdm, hmd, hdj, hjd, sσ60_6.1, sσ60_6.2, pσ60, cσ47_9.1, cσ47_9.2, cσ47_19.1, cσ47_19.2, fun a => (gσ47_16 a).1, fun a => (gσ47_16 a).2, cσ49_8.1, cσ49_8.2, cσ49_9.1, cσ49_9.2, cσ49_19.1, cσ49_19.2, cσ53_8.1, cσ53_8.2, cσ53_9.1, cσ53_9.2, cσ53_19.1, cσ53_19.2, cσ56_8.1, cσ56_8.2, cσ56_9.1, cσ56_9.2, cσ56_19.1, cσ56_19.2, cσ60_8.1, cσ60_8.2, cσ60_9.1, cσ60_9.2, cσ60_19.1, cσ60_19.2]
        refine ⟨by (first | omega | with_reducible assumption | (unfold rng; omega) | (unfold rng; (repeat' split) <;> omega) | decide), ?_⟩
        refine ⟨da, by exact hd, hda, ?_⟩
        refine ⟨da, by exact hd, hda, ?_⟩
        refine ⟨by (first | omega | with_reducible assumption | (unfold rng; omega) | (unfold rng; (repeat' split) <;> omega) | decide), ?_⟩
        refine s2_X16_see g (by refine Rg.jJ g ?_; refine Rg.jJ g ?_; exact rσ60) (by first | exact ps9 | exact PsIJ (PsIJ ps9)) (fun σ66 _ rσ66 fc p15 => ?_) (fun σx E rx fx px => hX _ _ rx (FdO.tr (by refine FdO.jJ g ?_ hda (by decide) (by (simp only [Jk]) <;> (first | omega | with_reducible assumption | (unfold rng; omega) | (unfold rng; (repeat' split) <;> omega) | decide)); refine FdO.jJ g ?_ hda (by decide) (by (simp only [Jk]) <;> (first | omega | with_reducible assumption | (unfold rng; omega) | (unfold rng; (repeat' split) <;> omega) | decide)); exact fσ60) (FdO.mor (Fr.d fx hda (by decide)) (by decide) (by decide) (by decide))) px)
        have fσ66 : FdO ra jx rm da o [15, 16] [4, 5, 7, 8, 9, 10, 11, 12, 13, 19] [15, 16] σ σ66 := FdO.tr (by refine FdO.jJ g ?_ hda (by decide) (by (simp only [Jk]) <;> (first | omega | with_reducible assumption | (unfold rng; omega) | (unfold rng; (repeat' split) <;> omega) | decide)); refine FdO.jJ g ?_ hda (by decide) (by (simp only [Jk]) <;> (first | omega | with_reducible assumption | (unfold rng; omega) | (unfold rng; (repeat' split) <;> omega) | decide)); exact fσ60) (FdO.mor (Fr.d fc hda (by decide)) (by decide) (by decide) (by decide))
        have cσ66_19 := fc.2.1 19 (by decide)
        have gσ66_16 := fun a => fc.2.2.1 a 16
        have ps9 := p15.1
        have cq9 := p15.2.1
        simp only [cnJ] at cq9
        have s8 := p15.2.2
        have pg9 := PgI.fr pgI hda fc (by decide)
        have ob9 := Fr.ob fc hda (by decide)
        simp only [rIJ] at ob9
        have n17 : gI σ66 da 17 = gI σ60 da 17 := congrFun ob9 17
        have okk : ∀ k, k ≠ 17 → gI σ66 da k = gI σ da k := fun k hk => (congrFun ob9 k).trans (okF k hk)
        have n19 := (fc.2.1 19 (by decide)).1
        simp only [rIJ] at n19
        have le6 := PsI.le ps9
        have s6n := (fσ66.2.1 6 (by decide)).1
        have ded : dqF (gI σ66 da 17) = dp (gI σ da 17) + 1 := by rw [n17]; exact de9
        have sσ66_6 := fσ66.2.1 6 (by decide)
        have pσ66 := fσ66.2.2.2.1 (by decide)
        try simp only [rII, rIJ, rIP, rJJ, rJI, rJP, rPP, rPI, rPJ, g1, g2, g3, g4, g5, g6, g7, g8, Nat.reduceEqDiff, Nat.reduceAdd, false_and, and_false, true_and, and_true, reduceIte, nZ0, nZ1, hdm, hmd, hdj, hjd, sσ66_6.1, sσ66_6.2, pσ66, cσ47_9.1, cσ47_9.2, cσ47_19.1, cσ47_19.2, fun a => (gσ47_16 a).1, fun a => (gσ47_16 a).2, cσ49_8.1, cσ49_8.2, cσ49_9.1, cσ49_9.2, cσ49_19.1, cσ49_19.2, cσ53_8.1, cσ53_8.2, cσ53_9.1, cσ53_9.2, cσ53_19.1, cσ53_19.2, cσ56_8.1, cσ56_8.2, cσ56_9.1, cσ56_9.2, cσ56_19.1, cσ56_19.2, cσ60_8.1, cσ60_8.2, cσ60_9.1, cσ60_9.2, cσ60_19.1, cσ60_19.2, cσ66_19.1, cσ66_19.2, fun a => (gσ66_16 a).1, fun a => (gσ66_16 a).2] at p15
        try simp only [forall_eq, rII, rIJ, rIP, rJJ, rJI, rJP, rPP, rPI, rPJ, g1, g2, g3, g4, g5, g6, g7, g8, Nat.reduceEqDiff, Nat.reduceAdd, false_and, and_false, true_and, and_true, reduceIte, nZ0, nZ1, hdm, hmd, hdj, hjd, sσ66_6.1, sσ66_6.2, pσ66, cσ47_9.1, cσ47_9.2, cσ47_19.1, cσ47_19.2, fun a => (gσ47_16 a).1, fun a => (gσ47_16 a).2, cσ49_8.1, cσ49_8.2, cσ49_9.1, cσ49_9.2, cσ49_19.1, cσ49_19.2, cσ53_8.1, cσ53_8.2, cσ53_9.1, cσ53_9.2, cσ53_19.1, cσ53_19.2, cσ56_8.1, cσ56_8.2, cσ56_9.1, cσ56_9.2, cσ56_19.1, cσ56_19.2, cσ60_8.1, cσ60_8.2, cσ60_9.1, cσ60_9.2, cσ60_19.1, cσ60_19.2, cσ66_19.1, cσ66_19.2, fun a => (gσ66_16 a).1, fun a => (gσ66_16 a).2]
        refine ih9 _ ?_ ?_ ?_ ?_
        · exact rσ66
        · exact fσ66
        · first | exact ⟨⟨dq9, ag9, pg9, by omega⟩, ⟨ps9, by omega⟩, ⟨by omega, by omega, by omega⟩, okk⟩ | exact ⟨⟨dqF, ag9, pg9, ded⟩, ⟨ps9, s8⟩, ⟨by omega, by omega, by omega⟩, okk⟩
        · (try simp only [rII, rIJ, rIP, rJJ, rJI, rJP, rPP, rPI, rPJ, g1, g2, g3, g4, g5, g6, g7, g8, Nat.reduceEqDiff, Nat.reduceAdd, false_and, and_false, true_and, and_true, reduceIte, nZ0, nZ1, hdm, hmd, hdj, hjd, sσ66_6.1, sσ66_6.2, pσ66, cσ47_9.1, cσ47_9.2, cσ47_19.1, cσ47_19.2, fun a => (gσ47_16 a).1, fun a => (gσ47_16 a).2, cσ49_8.1, cσ49_8.2, cσ49_9.1, cσ49_9.2, cσ49_19.1, cσ49_19.2, cσ53_8.1, cσ53_8.2, cσ53_9.1, cσ53_9.2, cσ53_19.1, cσ53_19.2, cσ56_8.1, cσ56_8.2, cσ56_9.1, cσ56_9.2, cσ56_19.1, cσ56_19.2, cσ60_8.1, cσ60_8.2, cσ60_9.1, cσ60_9.2, cσ60_19.1, cσ60_19.2, cσ66_19.1, cσ66_19.2, fun a => (gσ66_16 a).1, fun a => (gσ66_16 a).2]) <;> (first | omega | with_reducible assumption | (unfold rng; omega) | (unfold rng; (repeat' split) <;> omega) | decide)
  refine ⟨_, L9 _ _ ?_ ?_ ?_ (Nat.lt_succ_self _)⟩
  · exact rσ46
  · exact fσ46
  · first | exact ⟨⟨dq9, ag9, pg9, by omega⟩, ⟨ps9, by omega⟩, ⟨by omega, by omega, by omega⟩, okk⟩ | exact ⟨⟨dqF, ag9, pg9, ded⟩, ⟨ps9, s8⟩, ⟨by omega, by omega, by omega⟩, okk⟩
set_option maxHeartbeats 1000000 in
theorem s_X16_both {ra : Nat → Nat} {jx : Nat → Nat → Nat} {rm : Nat} {n : Nat} {da : Nat} {o : Int} {dp : Int → Int} {ex : Int → Prop} (g : Geo ra jx rm) {σ : Sg} {v1 : Int} (rσ : Rg ra jx rm σ) (hps : PsI rm σ) (hd : gP σ rm 18 = some da) (hda : da = ra 15 ∨ da = ra 16) (h1 : 0 ≤ v1 ∧ v1 < 16) (hN : 0 ≤ gI σ da 17 ∧ gI σ da 17 ≤ 4 * cn rm σ) (hpg : PgI jx da σ dp ex) (hdp : 0 ≤ dp (gI σ da 17) ∧ dp (gI σ da 17) ≤ 3 * gI σ rm 19 + 0) (hex : ∀ pc, gI σ da 17 ≤ pc → ¬ ex pc) (hfu : 7 * (11 - gI σ rm 19) - 2 ≤ (n : Int) + 1) (ih0 : ∀ {da : Nat} {o : Int} {dp : Int → Int} {ex : Int → Prop} (_ : Geo ra jx rm) {σ : Sg} {v1 : Int} (_ : Rg ra jx rm σ) (_ : PsI rm σ) (_ : gP σ rm 18 = some da) (_ : da = ra 15 ∨ da = ra 16) (_ : 0 ≤ v1 ∧ v1 < 16) (_ : 0 ≤ gI σ da 17 ∧ gI σ da 17 ≤ 4 * cn rm σ) (_ : PgI jx da σ dp ex) (_ : 0 ≤ dp (gI σ da 17) ∧ dp (gI σ da 17) ≤ 3 * gI σ rm 19 + 0) (_ : ∀ pc, gI σ da 17 ≤ pc → ¬ ex pc) (_ : 7 * (11 - gI σ rm 19) - 0 ≤ (n : Int)) {Q : Sg → Unit → Prop} {X : Sg → String → Prop} (_ : ∀ (σ' : Sg) (r : Unit), Rg ra jx rm σ' → FdO ra jx rm da o [15, 16] [4, 5, 7, 8, 9, 10, 11, 12, 13, 19] [15, 16] σ σ' → ((∃ dq : Int → Int, (∀ pc, pc ≤ gI σ da 17 → dq pc = dp pc) ∧ PgI jx da σ' dq ex ∧ dq (gI σ' da 17) = dp (gI σ da 17) + 1) ∧ PsI rm σ' ∧ gI σ' da 17 - 4 * cn rm σ' ≤ gI σ da 17 - 4 * cn rm σ ∧ gI σ' rm 19 = gI σ rm 19 ∧ gI σ da 17 < gI σ' da 17 ∧ (∀ k, k ≠ 17 → gI σ' da k = gI σ da k)) → Q σ' r) (_ : ∀ (σ' : Sg) (E : String), Rg ra jx rm σ' → FdO ra jx rm da o [15, 16] [4, 5, 7, 8, 9, 10, 11, 12, 13, 19] [15, 16] σ σ' → (E = "StreamHouseModel$Fault") → X σ' E), wrec ra jx rm n 0 v1 σ Q X) (ih1 : ∀ {da : Nat} {o : Int} {dp : Int → Int} {ex : Int → Prop} (_ : Geo ra jx rm) {σ : Sg} {v1 : Int} (_ : Rg ra jx rm σ) (_ : PsI rm σ) (_ : gP σ rm 18 = some da) (_ : da = ra 15 ∨ da = ra 16) (_ : 0 ≤ v1 ∧ v1 < 16) (_ : 0 ≤ gI σ da 17 ∧ gI σ da 17 ≤ 4 * cn rm σ) (_ : PgI jx da σ dp ex) (_ : 0 ≤ dp (gI σ da 17) ∧ dp (gI σ da 17) ≤ 3 * gI σ rm 19 + 0) (_ : ∀ pc, gI σ da 17 ≤ pc → ¬ ex pc) (_ : 7 * (11 - gI σ rm 19) - 1 ≤ (n : Int)) {Q : Sg → Unit → Prop} {X : Sg → String → Prop} (_ : ∀ (σ' : Sg) (r : Unit), Rg ra jx rm σ' → FdO ra jx rm da o [15, 16] [4, 5, 7, 8, 9, 10, 11, 12, 13, 19] [15, 16] σ σ' → ((∃ dq : Int → Int, (∀ pc, pc ≤ gI σ da 17 → dq pc = dp pc) ∧ PgI jx da σ' dq ex ∧ dq (gI σ' da 17) = dp (gI σ da 17) + 1) ∧ PsI rm σ' ∧ gI σ' da 17 - 4 * cn rm σ' ≤ gI σ da 17 - 4 * cn rm σ ∧ gI σ' rm 19 = gI σ rm 19 ∧ gI σ da 17 < gI σ' da 17 ∧ (∀ k, k ≠ 17 → gI σ' da k = gI σ da k)) → Q σ' r) (_ : ∀ (σ' : Sg) (E : String), Rg ra jx rm σ' → FdO ra jx rm da o [15, 16] [4, 5, 7, 8, 9, 10, 11, 12, 13, 19] [15, 16] σ σ' → (E = "StreamHouseModel$Fault") → X σ' E), wrec ra jx rm n 1 v1 σ Q X) (ih2 : ∀ {da : Nat} {o : Int} {dp : Int → Int} {ex : Int → Prop} (_ : Geo ra jx rm) {σ : Sg} {v1 : Int} (_ : Rg ra jx rm σ) (_ : PsI rm σ) (_ : gP σ rm 18 = some da) (_ : da = ra 15 ∨ da = ra 16) (_ : 0 ≤ v1 ∧ v1 < 16) (_ : 0 ≤ gI σ da 17 ∧ gI σ da 17 ≤ 4 * cn rm σ) (_ : PgI jx da σ dp ex) (_ : 0 ≤ dp (gI σ da 17) ∧ dp (gI σ da 17) ≤ 3 * gI σ rm 19 + 0) (_ : ∀ pc, gI σ da 17 ≤ pc → ¬ ex pc) (_ : 7 * (11 - gI σ rm 19) - 2 ≤ (n : Int)) {Q : Sg → Unit → Prop} {X : Sg → String → Prop} (_ : ∀ (σ' : Sg) (r : Unit), Rg ra jx rm σ' → FdO ra jx rm da o [15, 16] [4, 5, 7, 8, 9, 10, 11, 12, 13, 19] [15, 16] σ σ' → ((∃ dq : Int → Int, (∀ pc, pc ≤ gI σ da 17 → dq pc = dp pc) ∧ PgI jx da σ' dq ex ∧ dq (gI σ' da 17) = dp (gI σ da 17) + 1) ∧ PsI rm σ' ∧ gI σ' da 17 - 4 * cn rm σ' ≤ gI σ da 17 - 4 * cn rm σ ∧ gI σ' rm 19 = gI σ rm 19 ∧ gI σ da 17 < gI σ' da 17 ∧ (∀ k, k ≠ 17 → gI σ' da k = gI σ da k)) → Q σ' r) (_ : ∀ (σ' : Sg) (E : String), Rg ra jx rm σ' → FdO ra jx rm da o [15, 16] [4, 5, 7, 8, 9, 10, 11, 12, 13, 19] [15, 16] σ σ' → (E = "StreamHouseModel$Fault") → X σ' E), wrec ra jx rm n 2 v1 σ Q X) (ih3 : ∀ {da : Nat} {o : Int} {dp : Int → Int} {ex : Int → Prop} (_ : Geo ra jx rm) {σ : Sg} {v1 : Int} (_ : Rg ra jx rm σ) (_ : PsI rm σ) (_ : gP σ rm 18 = some da) (_ : da = ra 15 ∨ da = ra 16) (_ : 0 ≤ v1 ∧ v1 < 16) (_ : 0 ≤ gI σ da 17 ∧ gI σ da 17 ≤ 4 * cn rm σ) (_ : PgI jx da σ dp ex) (_ : 0 ≤ dp (gI σ da 17) ∧ dp (gI σ da 17) ≤ 3 * gI σ rm 19 + 0) (_ : ∀ pc, gI σ da 17 ≤ pc → ¬ ex pc) (_ : 7 * (11 - gI σ rm 19) - 3 ≤ (n : Int)) {Q : Sg → Unit → Prop} {X : Sg → String → Prop} (_ : ∀ (σ' : Sg) (r : Unit), Rg ra jx rm σ' → FdO ra jx rm da o [15, 16] [4, 5, 7, 8, 9, 10, 11, 12, 13, 19] [15, 16] σ σ' → ((∃ dq : Int → Int, (∀ pc, pc ≤ gI σ da 17 → dq pc = dp pc) ∧ PgI jx da σ' dq ex ∧ dq (gI σ' da 17) = dp (gI σ da 17) + 1) ∧ PsI rm σ' ∧ gI σ' da 17 - 4 * cn rm σ' ≤ gI σ da 17 - 4 * cn rm σ ∧ gI σ' rm 19 = gI σ rm 19 ∧ gI σ da 17 < gI σ' da 17 ∧ (∀ k, k ≠ 17 → gI σ' da k = gI σ da k)) → Q σ' r) (_ : ∀ (σ' : Sg) (E : String), Rg ra jx rm σ' → FdO ra jx rm da o [15, 16] [4, 5, 7, 8, 9, 10, 11, 12, 13, 19] [15, 16] σ σ' → (E = "StreamHouseModel$Fault") → X σ' E), wrec ra jx rm n 3 v1 σ Q X) (ih4 : ∀ {da : Nat} {o : Int} {dp : Int → Int} {ex : Int → Prop} (_ : Geo ra jx rm) {σ : Sg} {v1 : Int} (_ : Rg ra jx rm σ) (_ : PsI rm σ) (_ : gP σ rm 18 = some da) (_ : da = ra 15 ∨ da = ra 16) (_ : 0 ≤ v1 ∧ v1 < 16) (_ : 0 ≤ gI σ da 17 ∧ gI σ da 17 ≤ 4 * cn rm σ) (_ : PgI jx da σ dp ex) (_ : 0 ≤ dp (gI σ da 17) ∧ dp (gI σ da 17) ≤ 3 * gI σ rm 19 + 1) (_ : ∀ pc, gI σ da 17 ≤ pc → ¬ ex pc) (_ : 7 * (11 - gI σ rm 19) - 4 ≤ (n : Int)) {Q : Sg → Unit → Prop} {X : Sg → String → Prop} (_ : ∀ (σ' : Sg) (r : Unit), Rg ra jx rm σ' → FdO ra jx rm da o [15, 16] [4, 5, 7, 8, 9, 10, 11, 12, 13, 19] [15, 16] σ σ' → ((∃ dq : Int → Int, (∀ pc, pc ≤ gI σ da 17 → dq pc = dp pc) ∧ PgI jx da σ' dq ex ∧ dq (gI σ' da 17) = dp (gI σ da 17) + 1) ∧ PsI rm σ' ∧ gI σ' da 17 - 4 * cn rm σ' ≤ gI σ da 17 - 4 * cn rm σ ∧ gI σ' rm 19 = gI σ rm 19 ∧ gI σ da 17 < gI σ' da 17 ∧ (∀ k, k ≠ 17 → gI σ' da k = gI σ da k)) → Q σ' r) (_ : ∀ (σ' : Sg) (E : String), Rg ra jx rm σ' → FdO ra jx rm da o [15, 16] [4, 5, 7, 8, 9, 10, 11, 12, 13, 19] [15, 16] σ σ' → (E = "StreamHouseModel$Fault") → X σ' E), wrec ra jx rm n 4 v1 σ Q X) (ih5 : ∀ {da : Nat} {o : Int} {dp : Int → Int} {ex : Int → Prop} (_ : Geo ra jx rm) {σ : Sg} {v1 : Int} (_ : Rg ra jx rm σ) (_ : PsI rm σ) (_ : gP σ rm 18 = some da) (_ : da = ra 15 ∨ da = ra 16) (_ : 0 ≤ v1 ∧ v1 < 16) (_ : 0 ≤ gI σ da 17 ∧ gI σ da 17 ≤ 4 * cn rm σ) (_ : PgI jx da σ dp ex) (_ : 0 ≤ dp (gI σ da 17) ∧ dp (gI σ da 17) ≤ 3 * gI σ rm 19 + 2) (_ : ∀ pc, gI σ da 17 ≤ pc → ¬ ex pc) (_ : 7 * (11 - gI σ rm 19) - 5 ≤ (n : Int)) {Q : Sg → Unit → Prop} {X : Sg → String → Prop} (_ : ∀ (σ' : Sg) (r : Unit), Rg ra jx rm σ' → FdO ra jx rm da o [15, 16] [4, 5, 7, 8, 9, 10, 11, 12, 13, 19] [15, 16] σ σ' → ((∃ dq : Int → Int, (∀ pc, pc ≤ gI σ da 17 → dq pc = dp pc) ∧ PgI jx da σ' dq ex ∧ dq (gI σ' da 17) = dp (gI σ da 17) + 1) ∧ PsI rm σ' ∧ gI σ' da 17 - 4 * cn rm σ' ≤ gI σ da 17 - 4 * cn rm σ ∧ gI σ' rm 19 = gI σ rm 19 ∧ gI σ da 17 < gI σ' da 17 ∧ (∀ k, k ≠ 17 → gI σ' da k = gI σ da k)) → Q σ' r) (_ : ∀ (σ' : Sg) (E : String), Rg ra jx rm σ' → FdO ra jx rm da o [15, 16] [4, 5, 7, 8, 9, 10, 11, 12, 13, 19] [15, 16] σ σ' → (E = "StreamHouseModel$Fault") → X σ' E), wrec ra jx rm n 5 v1 σ Q X) (ih6 : ∀ {da : Nat} {o : Int} {dp : Int → Int} {ex : Int → Prop} (_ : Geo ra jx rm) {σ : Sg} {v1 : Int} (_ : Rg ra jx rm σ) (_ : PsI rm σ) (_ : gP σ rm 18 = some da) (_ : da = ra 15 ∨ da = ra 16) (_ : 0 ≤ v1 ∧ v1 < 16) (_ : 0 ≤ gI σ da 17 ∧ gI σ da 17 ≤ 4 * cn rm σ) (_ : PgI jx da σ dp ex) (_ : 0 ≤ dp (gI σ da 17) ∧ dp (gI σ da 17) ≤ 3 * gI σ rm 19 + 3) (_ : ∀ pc, gI σ da 17 ≤ pc → ¬ ex pc) (_ : 7 * (11 - gI σ rm 19) - 6 ≤ (n : Int)) {Q : Sg → Unit → Prop} {X : Sg → String → Prop} (_ : ∀ (σ' : Sg) (r : Unit), Rg ra jx rm σ' → FdO ra jx rm da o [15, 16] [4, 5, 7, 8, 9, 10, 11, 12, 13, 19] [15, 16] σ σ' → ((∃ dq : Int → Int, (∀ pc, pc ≤ gI σ da 17 → dq pc = dp pc) ∧ PgI jx da σ' dq ex ∧ dq (gI σ' da 17) = dp (gI σ da 17) + 1) ∧ PsI rm σ' ∧ gI σ' da 17 - 4 * cn rm σ' ≤ gI σ da 17 - 4 * cn rm σ ∧ gI σ' rm 19 = gI σ rm 19 ∧ gI σ da 17 < gI σ' da 17 ∧ (∀ k, k ≠ 17 → gI σ' da k = gI σ da k)) → Q σ' r) (_ : ∀ (σ' : Sg) (E : String), Rg ra jx rm σ' → FdO ra jx rm da o [15, 16] [4, 5, 7, 8, 9, 10, 11, 12, 13, 19] [15, 16] σ σ' → (E = "StreamHouseModel$Fault") → X σ' E), wrec ra jx rm n 6 v1 σ Q X) {Q : Sg → Unit → Prop} {X : Sg → String → Prop} (hQ : ∀ (σ' : Sg) (r : Unit), Rg ra jx rm σ' → FdO ra jx rm da o [15, 16] [4, 5, 7, 8, 9, 10, 11, 12, 13, 19] [15, 16] σ σ' → ((∃ dq : Int → Int, (∀ pc, pc ≤ gI σ da 17 → dq pc = dp pc) ∧ PgI jx da σ' dq ex ∧ dq (gI σ' da 17) = dp (gI σ da 17) + 1) ∧ PsI rm σ' ∧ gI σ' da 17 - 4 * cn rm σ' ≤ gI σ da 17 - 4 * cn rm σ ∧ gI σ' rm 19 = gI σ rm 19 ∧ gI σ da 17 < gI σ' da 17 ∧ (∀ k, k ≠ 17 → gI σ' da k = gI σ da k)) → Q σ' r) (hX : ∀ (σ' : Sg) (E : String), Rg ra jx rm σ' → FdO ra jx rm da o [15, 16] [4, 5, 7, 8, 9, 10, 11, 12, 13, 19] [15, 16] σ σ' → (E = "StreamHouseModel$Fault") → X σ' E) : w_X16_both_0 ra jx rm (wrec ra jx rm n) Q X σ v1 := by
  obtain ⟨g1, g2, g3, g4, g5, g6, g7, g8⟩ := id g
  have fσ : FdO ra jx rm da o [15, 16] [4, 5, 7, 8, 9, 10, 11, 12, 13, 19] [15, 16] σ σ := FdO.rf
  have hdm : ¬ da = rm := by rcases hda with q | q <;> rw [q] <;> exact g2 _
  have hmd : ¬ rm = da := fun q => hdm q.symm
  have hdj : ∀ a k, ¬ da = jx a k := fun a k => by rcases hda with q | q <;> rw [q] <;> exact g5 a k _
  have hjd : ∀ a k, ¬ jx a k = da := fun a k => by rcases hda with q | q <;> rw [q] <;> exact g4 a k _
  have q06 := rσ.2.1 6; simp only [rgS] at q06
  have q19 := rσ.2.1 19; simp only [rgS] at q19
  have ps9 := hps; have pg9 := hpg
  have okk : ∀ k, k ≠ 17 → gI σ da k = gI σ da k := fun _ _ => rfl
  have le6 := PsI.le hps
  unfold w_X16_both_0
  try simp only [forall_eq, rII, rIJ, rIP, rJJ, rJI, rJP, rPP, rPI, rPJ, g1, g2, g3, g4, g5, g6, g7, g8, Nat.reduceEqDiff, Nat.reduceAdd, false_and, and_false, true_and, and_true, reduceIte, nZ0, nZ1, hdm, hmd, hdj, hjd]
  refine ih3 (o := o) (dp := dp) (ex := ex) g rσ (by first | exact ps9 | exact PsIJ (PsIJ ps9)) (by (try simp only [rII, rIJ, rIP, rJJ, rJI, rJP, rPP, rPI, rPJ, g1, g2, g3, g4, g5, g6, g7, g8, Nat.reduceEqDiff, Nat.reduceAdd, false_and, and_false, true_and, and_true, reduceIte, nZ0, nZ1, hdm, hmd, hdj, hjd]) <;> first | exact hd | (rw [fσ.2.2.2.1 (by decide)]; exact hd)) hda h1 (by (try simp only [rII, rIJ, rIP, rJJ, rJI, rJP, rPP, rPI, rPJ, g1, g2, g3, g4, g5, g6, g7, g8, Nat.reduceEqDiff, Nat.reduceAdd, false_and, and_false, true_and, and_true, reduceIte, nZ0, nZ1, hdm, hmd, hdj, hjd]) <;> omega) (by exact pg9) (by (try simp only [rII, rIJ, rIP, rJJ, rJI, rJP, rPP, rPI, rPJ, g1, g2, g3, g4, g5, g6, g7, g8, Nat.reduceEqDiff, Nat.reduceAdd, false_and, and_false, true_and, and_true, reduceIte, nZ0, nZ1, hdm, hmd, hdj, hjd]) <;> omega) (by (try simp only [rII, rIJ, rIP, rJJ, rJI, rJP, rPP, rPI, rPJ, g1, g2, g3, g4, g5, g6, g7, g8, Nat.reduceEqDiff, Nat.reduceAdd, false_and, and_false, true_and, and_true, reduceIte, nZ0, nZ1, hdm, hmd, hdj, hjd]) <;> exact fun pc hp => hex pc (by omega)) (by (try simp only [rII, rIJ, rIP, rJJ, rJI, rJP, rPP, rPI, rPJ, g1, g2, g3, g4, g5, g6, g7, g8, Nat.reduceEqDiff, Nat.reduceAdd, false_and, and_false, true_and, and_true, reduceIte, nZ0, nZ1, hdm, hmd, hdj, hjd]) <;> omega) (fun σ45 _ rσ45 fc p1 => ?_) (fun σx E rx fx px => hX _ _ rx (FdO.tr fσ (FdO.mor (fx) (by decide) (by decide) (by decide))) px)
  have fσ45 : FdO ra jx rm da o [15, 16] [4, 5, 7, 8, 9, 10, 11, 12, 13, 19] [15, 16] σ σ45 := FdO.tr fσ (FdO.mor (fc) (by decide) (by decide) (by decide))
  obtain ⟨⟨dq9, ag9, pg9, de9⟩, ps9, cq9, n19, nl9, ok9⟩ := p1
  have okk : ∀ k, k ≠ 17 → gI σ45 da k = gI σ da k := fun k hk => (ok9 k hk).trans (by (try simp only [rII, rIJ, rIP, rJJ, rJI, rJP, rPP, rPI, rPJ, g1, g2, g3, g4, g5, g6, g7, g8, Nat.reduceEqDiff, Nat.reduceAdd, false_and, and_false, true_and, and_true, reduceIte, nZ0, nZ1, hdm, hmd, hdj, hjd]) <;> exact okk k hk)
  (try simp only [rII, rIJ, rIP, rJJ, rJI, rJP, rPP, rPI, rPJ, g1, g2, g3, g4, g5, g6, g7, g8, Nat.reduceEqDiff, Nat.reduceAdd, false_and, and_false, true_and, and_true, reduceIte, nZ0, nZ1, hdm, hmd, hdj, hjd] at cq9 n19 nl9 ag9 de9)
  have eo9 : gI σ da 17 = gI σ da 17 := by omega
  (try rw [eo9] at de9)
  have ag9 : ∀ pc, pc ≤ gI σ da 17 → dq9 pc = dp pc := fun pc hp => ag9 pc (by omega)
  have le6 := PsI.le ps9
  have s6n := (fσ45.2.1 6 (by decide)).1
  have sσ45_6 := fσ45.2.1 6 (by decide)
  have pσ45 := fσ45.2.2.2.1 (by decide)
  try simp only [rII, rIJ, rIP, rJJ, rJI, rJP, rPP, rPI, rPJ, g1, g2, g3, g4, g5, g6, g7, g8, Nat.reduceEqDiff, Nat.reduceAdd, false_and, and_false, true_and, and_true, reduceIte, nZ0, nZ1, hdm, hmd, hdj, hjd, sσ45_6.1, sσ45_6.2, pσ45] at p1
  try simp only [forall_eq, rII, rIJ, rIP, rJJ, rJI, rJP, rPP, rPI, rPJ, g1, g2, g3, g4, g5, g6, g7, g8, Nat.reduceEqDiff, Nat.reduceAdd, false_and, and_false, true_and, and_true, reduceIte, nZ0, nZ1, hdm, hmd, hdj, hjd, sσ45_6.1, sσ45_6.2, pσ45]
  refine s2_X16_see g rσ45 (by first | exact ps9 | exact PsIJ (PsIJ ps9)) (fun σ46 _ rσ46 fc p2 => ?_) (fun σx E rx fx px => hX _ _ rx (FdO.tr fσ45 (FdO.mor (Fr.d fx hda (by decide)) (by decide) (by decide) (by decide))) px)
  have fσ46 : FdO ra jx rm da o [15, 16] [4, 5, 7, 8, 9, 10, 11, 12, 13, 19] [15, 16] σ σ46 := FdO.tr fσ45 (FdO.mor (Fr.d fc hda (by decide)) (by decide) (by decide) (by decide))
  have cσ46_19 := fc.2.1 19 (by decide)
  have gσ46_16 := fun a => fc.2.2.1 a 16
  have ps9 := p2.1; have cq9 := p2.2
  have pg9 := PgI.fr pg9 hda fc (by decide)
  have n17 := congrFun (Fr.ob fc hda (by decide)) 17
  (try simp only [rII, rIJ, rIP, rJJ, rJI, rJP, rPP, rPI, rPJ, g1, g2, g3, g4, g5, g6, g7, g8, Nat.reduceEqDiff, Nat.reduceAdd, false_and, and_false, true_and, and_true, reduceIte, nZ0, nZ1, hdm, hmd, hdj, hjd, sσ45_6.1, sσ45_6.2, pσ45] at n17)
  have okk : ∀ k, k ≠ 17 → gI σ46 da k = gI σ da k := fun k hk => (congrFun (Fr.ob fc hda (by decide)) k).trans (by (try simp only [rII, rIJ, rIP, rJJ, rJI, rJP, rPP, rPI, rPJ, g1, g2, g3, g4, g5, g6, g7, g8, Nat.reduceEqDiff, Nat.reduceAdd, false_and, and_false, true_and, and_true, reduceIte, nZ0, nZ1, hdm, hmd, hdj, hjd, sσ45_6.1, sσ45_6.2, pσ45]) <;> exact okk k hk)
  have n19 := (fc.2.1 19 (by decide)).1
  (try simp only [rII, rIJ, rIP, rJJ, rJI, rJP, rPP, rPI, rPJ, g1, g2, g3, g4, g5, g6, g7, g8, Nat.reduceEqDiff, Nat.reduceAdd, false_and, and_false, true_and, and_true, reduceIte, nZ0, nZ1, hdm, hmd, hdj, hjd, sσ45_6.1, sσ45_6.2, pσ45] at n19)
  have le6 := PsI.le ps9
  have s6n := (fσ46.2.1 6 (by decide)).1
  have ded : dq9 (gI σ46 da 17) = dp (gI σ da 17) + 1 := by rw [n17]; exact de9
  have de9 := ded
  have sσ46_6 := fσ46.2.1 6 (by decide)
  have pσ46 := fσ46.2.2.2.1 (by decide)
  try simp only [rII, rIJ, rIP, rJJ, rJI, rJP, rPP, rPI, rPJ, g1, g2, g3, g4, g5, g6, g7, g8, Nat.reduceEqDiff, Nat.reduceAdd, false_and, and_false, true_and, and_true, reduceIte, nZ0, nZ1, hdm, hmd, hdj, hjd, sσ46_6.1, sσ46_6.2, pσ46, cσ46_19.1, cσ46_19.2, fun a => (gσ46_16 a).1, fun a => (gσ46_16 a).2] at p2
  try simp only [forall_eq, rII, rIJ, rIP, rJJ, rJI, rJP, rPP, rPI, rPJ, g1, g2, g3, g4, g5, g6, g7, g8, Nat.reduceEqDiff, Nat.reduceAdd, false_and, and_false, true_and, and_true, reduceIte, nZ0, nZ1, hdm, hmd, hdj, hjd, sσ46_6.1, sσ46_6.2, pσ46, cσ46_19.1, cσ46_19.2, fun a => (gσ46_16 a).1, fun a => (gσ46_16 a).2]
  have q4 := rσ.2.1 19; simp only [rgS, hdm, hmd, hdj, hjd] at q4
  have q6 := rσ.2.1 6; simp only [rgS, hdm, hmd, hdj, hjd] at q6
  have L9 : ∀ (fu9 : Nat) (τ9 : Sg), Rg ra jx rm τ9 → FdO ra jx rm da o [15, 16] [4, 5, 7, 8, 9, 10, 11, 12, 13, 19] [15, 16] σ τ9 → ((∃ dq : Int → Int, (∀ pc, pc ≤ gI σ da 17 → dq pc = dp pc) ∧ PgI jx da τ9 dq ex ∧ dq (gI τ9 da 17) = dp (gI σ da 17) + 1) ∧ (PsI rm τ9 ∧ gI τ9 rm 8 = 1) ∧ (gI τ9 da 17 - 4 * cn rm τ9 ≤ gI σ da 17 - 4 * cn rm σ ∧ gI τ9 rm 19 = gI σ rm 19 ∧ gI σ da 17 < gI τ9 da 17) ∧ (∀ k, k ≠ 17 → gI τ9 da k = gI σ da k)) → ((gI σ rm 6 - cn rm τ9).toNat) < fu9 → wl_X16_both_9 ra jx rm (wrec ra jx rm n) Q X fu9 τ9 v1 := by
    intro fu9
    induction fu9 with
    | zero => intro τ9 _ _ _ h9; omega
    | succ fu9 ih9 =>
      intro τ9 rτ9 fτ9 hi9 hm9
      unfold wl_X16_both_9
      have sτ9_6 := fτ9.2.1 6 (by decide)
      have pτ9 := fτ9.2.2.2.1 (by decide)
      unfold w_X16_both_9
      try simp only [forall_eq, rII, rIJ, rIP, rJJ, rJI, rJP, rPP, rPI, rPJ, g1, g2, g3, g4, g5, g6, g7, g8, Nat.reduceEqDiff, Nat.reduceAdd, false_and, and_false, true_and, and_true, reduceIte, nZ0, nZ1, hdm, hmd, hdj, hjd, sτ9_6.1, sτ9_6.2, pτ9]
      obtain ⟨⟨dq9, ag9, pg9, de9⟩, ⟨ps9, s8⟩, ⟨i1, i2, i3⟩, okk⟩ := hi9
      have le6 := PsI.le ps9
      have s6n := (fτ9.2.1 6 (by decide)).1
      have q7 := rτ9.2.1 9; simp only [rgS, hdm, hmd, hdj, hjd] at q7
      split
      · rename_i hc15
        skip
        unfold w_X16_both_103
        try simp only [forall_eq, rII, rIJ, rIP, rJJ, rJI, rJP, rPP, rPI, rPJ, g1, g2, g3, g4, g5, g6, g7, g8, Nat.reduceEqDiff, Nat.reduceAdd, false_and, and_false, true_and, and_true, reduceIte, nZ0, nZ1, hdm, hmd, hdj, hjd, sτ9_6.1, sτ9_6.2, pτ9]
        refine hQ _ _ ?_ ?_ ?_
        · exact rτ9
        · exact fτ9
        · exact ⟨⟨dq9, ag9, pg9, by omega⟩, ps9, by omega, by omega, by omega, okk⟩
      · rename_i hc15
        skip
        unfold w_X16_both_18
        try simp only [forall_eq, rII, rIJ, rIP, rJJ, rJI, rJP, rPP, rPI, rPJ, g1, g2, g3, g4, g5, g6, g7, g8, Nat.reduceEqDiff, Nat.reduceAdd, false_and, and_false, true_and, and_true, reduceIte, nZ0, nZ1, hdm, hmd, hdj, hjd, sτ9_6.1, sτ9_6.2, pτ9]
        refine s2_X16_take g rτ9 (by first | exact ps9 | exact PsIJ (PsIJ ps9)) (by omega) (by omega) (fun σ47 _ rσ47 fc p8 => ?_)
        have fσ47 : FdO ra jx rm da o [15, 16] [4, 5, 7, 8, 9, 10, 11, 12, 13, 19] [15, 16] σ σ47 := FdO.tr fτ9 (FdO.mor (Fr.d fc hda (by decide)) (by decide) (by decide) (by decide))
        have cσ47_9 := fc.2.1 9 (by decide)
        have cσ47_19 := fc.2.1 19 (by decide)
        have gσ47_16 := fun a => fc.2.2.1 a 16
        have ps9 := p8.1; have cq9 := p8.2
        have pg9 := PgI.fr pg9 hda fc (by decide)
        have n17 := congrFun (Fr.ob fc hda (by decide)) 17
        (try simp only [rII, rIJ, rIP, rJJ, rJI, rJP, rPP, rPI, rPJ, g1, g2, g3, g4, g5, g6, g7, g8, Nat.reduceEqDiff, Nat.reduceAdd, false_and, and_false, true_and, and_true, reduceIte, nZ0, nZ1, hdm, hmd, hdj, hjd, sτ9_6.1, sτ9_6.2, pτ9] at n17)
        have okk : ∀ k, k ≠ 17 → gI σ47 da k = gI σ da k := fun k hk => (congrFun (Fr.ob fc hda (by decide)) k).trans (by (try simp only [rII, rIJ, rIP, rJJ, rJI, rJP, rPP, rPI, rPJ, g1, g2, g3, g4, g5, g6, g7, g8, Nat.reduceEqDiff, Nat.reduceAdd, false_and, and_false, true_and, and_true, reduceIte, nZ0, nZ1, hdm, hmd, hdj, hjd, sτ9_6.1, sτ9_6.2, pτ9]) <;> exact okk k hk)
        have n19 := (fc.2.1 19 (by decide)).1
        have le6 := PsI.le ps9
        have s6n := (fσ47.2.1 6 (by decide)).1
        have ded : dq9 (gI σ47 da 17) = dp (gI σ da 17) + 1 := by rw [n17]; exact de9
        have de9 := ded
        have sσ47_6 := fσ47.2.1 6 (by decide)
        have pσ47 := fσ47.2.2.2.1 (by decide)
        try simp only [rII, rIJ, rIP, rJJ, rJI, rJP, rPP, rPI, rPJ, g1, g2, g3, g4, g5, g6, g7, g8, Nat.reduceEqDiff, Nat.reduceAdd, false_and, and_false, true_and, and_true, reduceIte, nZ0, nZ1, hdm, hmd, hdj, hjd, sσ47_6.1, sσ47_6.2, pσ47, cσ47_9.1, cσ47_9.2, cσ47_19.1, cσ47_19.2, fun a => (gσ47_16 a).1, fun a => (gσ47_16 a).2] at p8
        try simp only [forall_eq, rII, rIJ, rIP, rJJ, rJI, rJP, rPP, rPI, rPJ, g1, g2, g3, g4, g5, g6, g7, g8, Nat.reduceEqDiff, Nat.reduceAdd, false_and, and_false, true_and, and_true, reduceIte, nZ0, nZ1, hdm, hmd, hdj, hjd, sσ47_6.1, sσ47_6.2, pσ47, cσ47_9.1, cσ47_9.2, cσ47_19.1, cσ47_19.2, fun a => (gσ47_16 a).1, fun a => (gσ47_16 a).2]
        refine ⟨da, by exact hd, hda, ?_⟩
        refine s2_X15_step (o := o) g rσ47 hda (by omega) (by omega) (fun σ49 r50 rσ49 fc p9 => ?_)
        have fσ49 : FdO ra jx rm da o [15, 16] [4, 5, 7, 8, 9, 10, 11, 12, 13, 19] [15, 16] σ σ49 := FdO.tr fσ47 (FdO.mor (fc) (by decide) (by decide) (by decide))
        have cσ49_8 := fc.2.1 8 (by decide)
        have cσ49_9 := fc.2.1 9 (by decide)
        have cσ49_19 := fc.2.1 19 (by decide)
        have A0 := p9.1; have A1 := p9.2.1; have A2 := p9.2.2.1; have A3 := p9.2.2.2.1
        have okk : ∀ k, k ≠ 17 → gI σ49 da k = gI σ da k := fun k hk => (p9.2.2.2.2 k hk).trans (okk k hk)
        have pf9 := PsI.frj ps9 (FdO.fj fc) (by decide)
        have ps9 := pf9.1; have cq9 := pf9.2
        clear pf9 p9
        have n19 := (fc.2.1 19 (by decide)).1
        have le6 := PsI.le ps9
        have s6n := (fσ49.2.1 6 (by decide)).1
        have hd9 : 0 ≤ dp (gI σ da 17) ∧ dp (gI σ da 17) ≤ 100 := by omega
        have hNp : 0 ≤ gI σ47 da 17 := by omega
        obtain ⟨dqB, agB, pg9, deB⟩ := PgI.pendE (dp (gI σ da 17)) pg9 hNp A1 A2 A3
        have sσ49_6 := fσ49.2.1 6 (by decide)
        have pσ49 := fσ49.2.2.2.1 (by decide)
        try simp only [rII, rIJ, rIP, rJJ, rJI, rJP, rPP, rPI, rPJ, g1, g2, g3, g4, g5, g6, g7, g8, Nat.reduceEqDiff, Nat.reduceAdd, false_and, and_false, true_and, and_true, reduceIte, nZ0, nZ1, hdm, hmd, hdj, hjd, sσ49_6.1, sσ49_6.2, pσ49, cσ47_9.1, cσ47_9.2, cσ47_19.1, cσ47_19.2, fun a => (gσ47_16 a).1, fun a => (gσ47_16 a).2, cσ49_8.1, cσ49_8.2, cσ49_9.1, cσ49_9.2, cσ49_19.1, cσ49_19.2] at p9
        try simp only [forall_eq, rII, rIJ, rIP, rJJ, rJI, rJP, rPP, rPI, rPJ, g1, g2, g3, g4, g5, g6, g7, g8, Nat.reduceEqDiff, Nat.reduceAdd, false_and, and_false, true_and, and_true, reduceIte, nZ0, nZ1, hdm, hmd, hdj, hjd, sσ49_6.1, sσ49_6.2, pσ49, cσ47_9.1, cσ47_9.2, cσ47_19.1, cσ47_19.2, fun a => (gσ47_16 a).1, fun a => (gσ47_16 a).2, cσ49_8.1, cσ49_8.2, cσ49_9.1, cσ49_9.2, cσ49_19.1, cσ49_19.2]
        refine ih3 (o := o) (dp := dqB) (ex := fun pc => ex pc ∨ pc = gI σ47 da 17) g rσ49 (by first | exact ps9 | exact PsIJ (PsIJ ps9)) (by (try simp only [rII, rIJ, rIP, rJJ, rJI, rJP, rPP, rPI, rPJ, g1, g2, g3, g4, g5, g6, g7, g8, Nat.reduceEqDiff, Nat.reduceAdd, false_and, and_false, true_and, and_true, reduceIte, nZ0, nZ1, hdm, hmd, hdj, hjd, sσ49_6.1, sσ49_6.2, pσ49, cσ47_9.1, cσ47_9.2, cσ47_19.1, cσ47_19.2, fun a => (gσ47_16 a).1, fun a => (gσ47_16 a).2, cσ49_8.1, cσ49_8.2, cσ49_9.1, cσ49_9.2, cσ49_19.1, cσ49_19.2]) <;> first | exact hd | (rw [fσ49.2.2.2.1 (by decide)]; exact hd)) hda h1 (by (try simp only [rII, rIJ, rIP, rJJ, rJI, rJP, rPP, rPI, rPJ, g1, g2, g3, g4, g5, g6, g7, g8, Nat.reduceEqDiff, Nat.reduceAdd, false_and, and_false, true_and, and_true, reduceIte, nZ0, nZ1, hdm, hmd, hdj, hjd, sσ49_6.1, sσ49_6.2, pσ49, cσ47_9.1, cσ47_9.2, cσ47_19.1, cσ47_19.2, fun a => (gσ47_16 a).1, fun a => (gσ47_16 a).2, cσ49_8.1, cσ49_8.2, cσ49_9.1, cσ49_9.2, cσ49_19.1, cσ49_19.2]) <;> omega) (by exact pg9) (by (try simp only [rII, rIJ, rIP, rJJ, rJI, rJP, rPP, rPI, rPJ, g1, g2, g3, g4, g5, g6, g7, g8, Nat.reduceEqDiff, Nat.reduceAdd, false_and, and_false, true_and, and_true, reduceIte, nZ0, nZ1, hdm, hmd, hdj, hjd, sσ49_6.1, sσ49_6.2, pσ49, cσ47_9.1, cσ47_9.2, cσ47_19.1, cσ47_19.2, fun a => (gσ47_16 a).1, fun a => (gσ47_16 a).2, cσ49_8.1, cσ49_8.2, cσ49_9.1, cσ49_9.2, cσ49_19.1, cσ49_19.2]) <;> omega) (by (try simp only [rII, rIJ, rIP, rJJ, rJI, rJP, rPP, rPI, rPJ, g1, g2, g3, g4, g5, g6, g7, g8, Nat.reduceEqDiff, Nat.reduceAdd, false_and, and_false, true_and, and_true, reduceIte, nZ0, nZ1, hdm, hmd, hdj, hjd, sσ49_6.1, sσ49_6.2, pσ49, cσ47_9.1, cσ47_9.2, cσ47_19.1, cσ47_19.2, fun a => (gσ47_16 a).1, fun a => (gσ47_16 a).2, cσ49_8.1, cσ49_8.2, cσ49_9.1, cσ49_9.2, cσ49_19.1, cσ49_19.2]) <;> exact fun pc hp q => q.elim (hex pc (by omega)) (fun z => by omega)) (by (try simp only [rII, rIJ, rIP, rJJ, rJI, rJP, rPP, rPI, rPJ, g1, g2, g3, g4, g5, g6, g7, g8, Nat.reduceEqDiff, Nat.reduceAdd, false_and, and_false, true_and, and_true, reduceIte, nZ0, nZ1, hdm, hmd, hdj, hjd, sσ49_6.1, sσ49_6.2, pσ49, cσ47_9.1, cσ47_9.2, cσ47_19.1, cσ47_19.2, fun a => (gσ47_16 a).1, fun a => (gσ47_16 a).2, cσ49_8.1, cσ49_8.2, cσ49_9.1, cσ49_9.2, cσ49_19.1, cσ49_19.2]) <;> omega) (fun σ51 _ rσ51 fc p10 => ?_) (fun σx E rx fx px => hX _ _ rx (FdO.tr fσ49 (FdO.mor (fx) (by decide) (by decide) (by decide))) px)
        have fσ51 : FdO ra jx rm da o [15, 16] [4, 5, 7, 8, 9, 10, 11, 12, 13, 19] [15, 16] σ σ51 := FdO.tr fσ49 (FdO.mor (fc) (by decide) (by decide) (by decide))
        obtain ⟨⟨dqC, agC, pgC, deC⟩, ps9, cq9, n19, nlC, ok9⟩ := p10
        have okk : ∀ k, k ≠ 17 → gI σ51 da k = gI σ da k := fun k hk => (ok9 k hk).trans (okk k hk)
        have sC := (fc.2.2.2.2.2.1 15 (gI σ47 da 17).toNat (by simp only [Jk]; omega)).1
        clear ok9
        have le6 := PsI.le ps9
        have s6n := (fσ51.2.1 6 (by decide)).1
        have sσ51_6 := fσ51.2.1 6 (by decide)
        have pσ51 := fσ51.2.2.2.1 (by decide)
        try simp only [rII, rIJ, rIP, rJJ, rJI, rJP, rPP, rPI, rPJ, g1, g2, g3, g4, g5, g6, g7, g8, Nat.reduceEqDiff, Nat.reduceAdd, false_and, and_false, true_and, and_true, reduceIte, nZ0, nZ1, hdm, hmd, hdj, hjd, sσ51_6.1, sσ51_6.2, pσ51, cσ47_9.1, cσ47_9.2, cσ47_19.1, cσ47_19.2, fun a => (gσ47_16 a).1, fun a => (gσ47_16 a).2, cσ49_8.1, cσ49_8.2, cσ49_9.1, cσ49_9.2, cσ49_19.1, cσ49_19.2] at p10
        try simp only [forall_eq, rII, rIJ, rIP, rJJ, rJI, rJP, rPP, rPI, rPJ, g1, g2, g3, g4, g5, g6, g7, g8, Nat.reduceEqDiff, Nat.reduceAdd, false_and, and_false, true_and, and_true, reduceIte, nZ0, nZ1, hdm, hmd, hdj, hjd, sσ51_6.1, sσ51_6.2, pσ51, cσ47_9.1, cσ47_9.2, cσ47_19.1, cσ47_19.2, fun a => (gσ47_16 a).1, fun a => (gσ47_16 a).2, cσ49_8.1, cσ49_8.2, cσ49_9.1, cσ49_9.2, cσ49_19.1, cσ49_19.2]
        refine ⟨da, by exact hd, hda, ?_⟩
        refine s2_X15_step (o := o) g rσ51 hda (by omega) (by omega) (fun σ53 r54 rσ53 fc p11 => ?_)
        have fσ53 : FdO ra jx rm da o [15, 16] [4, 5, 7, 8, 9, 10, 11, 12, 13, 19] [15, 16] σ σ53 := FdO.tr fσ51 (FdO.mor (fc) (by decide) (by decide) (by decide))
        have cσ53_8 := fc.2.1 8 (by decide)
        have cσ53_9 := fc.2.1 9 (by decide)
        have cσ53_19 := fc.2.1 19 (by decide)
        have T0 := p11.1; have T1 := p11.2.1; have T2 := p11.2.2.1; have T3 := p11.2.2.2.1
        have okk : ∀ k, k ≠ 17 → gI σ53 da k = gI σ da k := fun k hk => (p11.2.2.2.2 k hk).trans (okk k hk)
        have pf9 := PsI.frj ps9 (FdO.fj fc) (by decide)
        have ps9 := pf9.1; have cq9 := pf9.2
        clear pf9 p11
        have n19 := (fc.2.1 19 (by decide)).1
        have le6 := PsI.le ps9
        have s6n := (fσ53.2.1 6 (by decide)).1
        have sσ53_6 := fσ53.2.1 6 (by decide)
        have pσ53 := fσ53.2.2.2.1 (by decide)
        try simp only [rII, rIJ, rIP, rJJ, rJI, rJP, rPP, rPI, rPJ, g1, g2, g3, g4, g5, g6, g7, g8, Nat.reduceEqDiff, Nat.reduceAdd, false_and, and_false, true_and, and_true, reduceIte, nZ0, nZ1, hdm, hmd, hdj, hjd, sσ53_6.1, sσ53_6.2, pσ53, cσ47_9.1, cσ47_9.2, cσ47_19.1, cσ47_19.2, fun a => (gσ47_16 a).1, fun a => (gσ47_16 a).2, cσ49_8.1, cσ49_8.2, cσ49_9.1, cσ49_9.2, cσ49_19.1, cσ49_19.2, cσ53_8.1, cσ53_8.2, cσ53_9.1, cσ53_9.2, cσ53_19.1, cσ53_19.2] at p11
        try simp only [forall_eq, rII, rIJ, rIP, rJJ, rJI, rJP, rPP, rPI, rPJ, g1, g2, g3, g4, g5, g6, g7, g8, Nat.reduceEqDiff, Nat.reduceAdd, false_and, and_false, true_and, and_true, reduceIte, nZ0, nZ1, hdm, hmd, hdj, hjd, sσ53_6.1, sσ53_6.2, pσ53, cσ47_9.1, cσ47_9.2, cσ47_19.1, cσ47_19.2, fun a => (gσ47_16 a).1, fun a => (gσ47_16 a).2, cσ49_8.1, cσ49_8.2, cσ49_9.1, cσ49_9.2, cσ49_19.1, cσ49_19.2, cσ53_8.1, cσ53_8.2, cσ53_9.1, cσ53_9.2, cσ53_19.1, cσ53_19.2]
        refine ⟨da, by exact hd, hda, ?_⟩
        refine s2_X15_step (o := o) g rσ53 hda (by omega) (by omega) (fun σ56 r57 rσ56 fc p12 => ?_)
        have fσ56 : FdO ra jx rm da o [15, 16] [4, 5, 7, 8, 9, 10, 11, 12, 13, 19] [15, 16] σ σ56 := FdO.tr fσ53 (FdO.mor (fc) (by decide) (by decide) (by decide))
        have cσ56_8 := fc.2.1 8 (by decide)
        have cσ56_9 := fc.2.1 9 (by decide)
        have cσ56_19 := fc.2.1 19 (by decide)
        have L0 := p12.1; have L1 := p12.2.1; have L2 := p12.2.2.1; have L3 := p12.2.2.2.1
        have okk : ∀ k, k ≠ 17 → gI σ56 da k = gI σ da k := fun k hk => (p12.2.2.2.2 k hk).trans (okk k hk)
        have pf9 := PsI.frj ps9 (FdO.fj fc) (by decide)
        have ps9 := pf9.1; have cq9 := pf9.2
        clear pf9 p12
        have n19 := (fc.2.1 19 (by decide)).1
        have le6 := PsI.le ps9
        have s6n := (fσ56.2.1 6 (by decide)).1
        have sσ56_6 := fσ56.2.1 6 (by decide)
        have pσ56 := fσ56.2.2.2.1 (by decide)
        try simp only [rII, rIJ, rIP, rJJ, rJI, rJP, rPP, rPI, rPJ, g1, g2, g3, g4, g5, g6, g7, g8, Nat.reduceEqDiff, Nat.reduceAdd, false_and, and_false, true_and, and_true, reduceIte, nZ0, nZ1, hdm, hmd, hdj, hjd, sσ56_6.1, sσ56_6.2, pσ56, cσ47_9.1, cσ47_9.2, cσ47_19.1, cσ47_19.2, fun a => (gσ47_16 a).1, fun a => (gσ47_16 a).2, cσ49_8.1, cσ49_8.2, cσ49_9.1, cσ49_9.2, cσ49_19.1, cσ49_19.2, cσ53_8.1, cσ53_8.2, cσ53_9.1, cσ53_9.2, cσ53_19.1, cσ53_19.2, cσ56_8.1, cσ56_8.2, cσ56_9.1, cσ56_9.2, cσ56_19.1, cσ56_19.2] at p12
        try simp only [forall_eq, rII, rIJ, rIP, rJJ, rJI, rJP, rPP, rPI, rPJ, g1, g2, g3, g4, g5, g6, g7, g8, Nat.reduceEqDiff, Nat.reduceAdd, false_and, and_false, true_and, and_true, reduceIte, nZ0, nZ1, hdm, hmd, hdj, hjd, sσ56_6.1, sσ56_6.2, pσ56, cσ47_9.1, cσ47_9.2, cσ47_19.1, cσ47_19.2, fun a => (gσ47_16 a).1, fun a => (gσ47_16 a).2, cσ49_8.1, cσ49_8.2, cσ49_9.1, cσ49_9.2, cσ49_19.1, cσ49_19.2, cσ53_8.1, cσ53_8.2, cσ53_9.1, cσ53_9.2, cσ53_19.1, cσ53_19.2, cσ56_8.1, cσ56_8.2, cσ56_9.1, cσ56_9.2, cσ56_19.1, cσ56_19.2]
        refine ⟨da, by exact hd, hda, ?_⟩
        refine ⟨da, by exact hd, hda, ?_⟩
        refine s2_X15_step (o := o) g rσ56 hda (by omega) (by omega) (fun σ60 r61 rσ60 fc p13 => ?_)
        have fσ60 : FdO ra jx rm da o [15, 16] [4, 5, 7, 8, 9, 10, 11, 12, 13, 19] [15, 16] σ σ60 := FdO.tr fσ56 (FdO.mor (fc) (by decide) (by decide) (by decide))
        have cσ60_8 := fc.2.1 8 (by decide)
        have cσ60_9 := fc.2.1 9 (by decide)
        have cσ60_19 := fc.2.1 19 (by decide)
        have M0 := p13.1; have M1 := p13.2.1; have M2 := p13.2.2.1; have M3 := p13.2.2.2.1
        have okk : ∀ k, k ≠ 17 → gI σ60 da k = gI σ da k := fun k hk => (p13.2.2.2.2 k hk).trans (okk k hk)
        have pf9 := PsI.frj ps9 (FdO.fj fc) (by decide)
        have ps9 := pf9.1; have cq9 := pf9.2
        clear pf9 p13
        have n19 := (fc.2.1 19 (by decide)).1
        have le6 := PsI.le ps9
        have s6n := (fσ60.2.1 6 (by decide)).1
        have hN6 : gI σ60 da 17 ≤ 6000 := by omega
        obtain ⟨dqF, agF, pgI, deF⟩ := logE (y := r50) (e := r57) (t := r61) (d := dp (gI σ da 17)) (by decide) hNp hN6 hd9 de9 agB deB A1 A2 agC pgC deC nlC sC T1 T2 T3 L1 L2 L3 M1 M2 M3 A0 L0 M0
        have ag7 := ag9
        have ag9 : ∀ pc, pc ≤ gI σ da 17 → dqF pc = dp pc := fun pc hp => (agF pc (by omega)).trans (ag7 pc hp)
        have de9 := deF
        have okF := okk
        have sσ60_6 := fσ60.2.1 6 (by decide)
        have pσ60 := fσ60.2.2.2.1 (by decide)
        try simp only [rII, rIJ, rIP, rJJ, rJI, rJP, rPP, rPI, rPJ, g1, g2, g3, g4, g5, g6, g7, g8, Nat.reduceEqDiff, Nat.reduceAdd, false_and, and_false, true_and, and_true, reduceIte, nZ0, nZ1, hdm, hmd, hdj, hjd, sσ60_6.1, sσ60_6.2, pσ60, cσ47_9.1, cσ47_9.2, cσ47_19.1, cσ47_19.2, fun a => (gσ47_16 a).1, fun a => (gσ47_16 a).2, cσ49_8.1, cσ49_8.2, cσ49_9.1, cσ49_9.2, cσ49_19.1, cσ49_19.2, cσ53_8.1, cσ53_8.2, cσ53_9.1, cσ53_9.2, cσ53_19.1, cσ53_19.2, cσ56_8.1, cσ56_8.2, cσ56_9.1, cσ56_9.2, cσ56_19.1, cσ56_19.2, cσ60_8.1, cσ60_8.2, cσ60_9.1, cσ60_9.2, cσ60_19.1, cσ60_19.2] at p13
        try simp only [forall_eq, rII, rIJ, rIP, rJJ, rJI, rJP, rPP, rPI, rPJ, g1, g2, g3, g4, g5, g6, g7, g8, Nat.reduceEqDiff, Nat.reduceAdd, false_and, and_false, true_and, and_true, reduceIte, nZ0, nZ1, hdm, hmd, hdj, hjd, sσ60_6.1, sσ60_6.2, pσ60, cσ47_9.1, cσ47_9.2, cσ47_19.1, cσ47_19.2, fun a => (gσ47_16 a).1, fun a => (gσ47_16 a).2, cσ49_8.1, cσ49_8.2, cσ49_9.1, cσ49_9.2, cσ49_19.1, cσ49_19.2, cσ53_8.1, cσ53_8.2, cσ53_9.1, cσ53_9.2, cσ53_19.1, cσ53_19.2, cσ56_8.1, cσ56_8.2, cσ56_9.1, cσ56_9.2, cσ56_19.1, cσ56_19.2, cσ60_8.1, cσ60_8.2, cσ60_9.1, cσ60_9.2, cσ60_19.1, cσ60_19.2]
        refine ⟨by (first | omega | with_reducible assumption | (unfold rng; omega) | (unfold rng; (repeat' split) <;> omega) | decide), ?_⟩
        refine ⟨da, by exact hd, hda, ?_⟩
        refine ⟨da, by exact hd, hda, ?_⟩
        refine ⟨by (first | omega | with_reducible assumption | (unfold rng; omega) | (unfold rng; (repeat' split) <;> omega) | decide), ?_⟩
        refine s2_X16_see g (by refine Rg.jJ g ?_; refine Rg.jJ g ?_; exact rσ60) (by first | exact ps9 | exact PsIJ (PsIJ ps9)) (fun σ66 _ rσ66 fc p15 => ?_) (fun σx E rx fx px => hX _ _ rx (FdO.tr (by refine FdO.jJ g ?_ hda (by decide) (by (simp only [Jk]) <;> (first | omega | with_reducible assumption | (unfold rng; omega) | (unfold rng; (repeat' split) <;> omega) | decide)); refine FdO.jJ g ?_ hda (by decide) (by (simp only [Jk]) <;> (first | omega | with_reducible assumption | (unfold rng; omega) | (unfold rng; (repeat' split) <;> omega) | decide)); exact fσ60) (FdO.mor (Fr.d fx hda (by decide)) (by decide) (by decide) (by decide))) px)
        have fσ66 : FdO ra jx rm da o [15, 16] [4, 5, 7, 8, 9, 10, 11, 12, 13, 19] [15, 16] σ σ66 := FdO.tr (by refine FdO.jJ g ?_ hda (by decide) (by (simp only [Jk]) <;> (first | omega | with_reducible assumption | (unfold rng; omega) | (unfold rng; (repeat' split) <;> omega) | decide)); refine FdO.jJ g ?_ hda (by decide) (by (simp only [Jk]) <;> (first | omega | with_reducible assumption | (unfold rng; omega) | (unfold rng; (repeat' split) <;> omega) | decide)); exact fσ60) (FdO.mor (Fr.d fc hda (by decide)) (by decide) (by decide) (by decide))
        have cσ66_19 := fc.2.1 19 (by decide)
        have gσ66_16 := fun a => fc.2.2.1 a 16
        have ps9 := p15.1
        have cq9 := p15.2.1
        simp only [cnJ] at cq9
        have s8 := p15.2.2
        have pg9 := PgI.fr pgI hda fc (by decide)
        have ob9 := Fr.ob fc hda (by decide)
        simp only [rIJ] at ob9
        have n17 : gI σ66 da 17 = gI σ60 da 17 := congrFun ob9 17
        have okk : ∀ k, k ≠ 17 → gI σ66 da k = gI σ da k := fun k hk => (congrFun ob9 k).trans (okF k hk)
        have n19 := (fc.2.1 19 (by decide)).1
        simp only [rIJ] at n19
        have le6 := PsI.le ps9
        have s6n := (fσ66.2.1 6 (by decide)).1
        have ded : dqF (gI σ66 da 17) = dp (gI σ da 17) + 1 := by rw [n17]; exact de9
        have sσ66_6 := fσ66.2.1 6 (by decide)
        have pσ66 := fσ66.2.2.2.1 (by decide)
        try simp only [rII, rIJ, rIP, rJJ, rJI, rJP, rPP, rPI, rPJ, g1, g2, g3, g4, g5, g6, g7, g8, Nat.reduceEqDiff, Nat.reduceAdd, false_and, and_false, true_and, and_true, reduceIte, nZ0, nZ1, hdm, hmd, hdj, hjd, sσ66_6.1, sσ66_6.2, pσ66, cσ47_9.1, cσ47_9.2, cσ47_19.1, cσ47_19.2, fun a => (gσ47_16 a).1, fun a => (gσ47_16 a).2, cσ49_8.1, cσ49_8.2, cσ49_9.1, cσ49_9.2, cσ49_19.1, cσ49_19.2, cσ53_8.1, cσ53_8.2, cσ53_9.1, cσ53_9.2, cσ53_19.1, cσ53_19.2, cσ56_8.1, cσ56_8.2, cσ56_9.1, cσ56_9.2, cσ56_19.1, cσ56_19.2, cσ60_8.1, cσ60_8.2, cσ60_9.1, cσ60_9.2, cσ60_19.1, cσ60_19.2, cσ66_19.1, cσ66_19.2, fun a => (gσ66_16 a).1, fun a => (gσ66_16 a).2] at p15
        try simp only [forall_eq, rII, rIJ, rIP, rJJ, rJI, rJP, rPP, rPI, rPJ, g1, g2, g3, g4, g5, g6, g7, g8, Nat.reduceEqDiff, Nat.reduceAdd, false_and, and_false, true_and, and_true, reduceIte, nZ0, nZ1, hdm, hmd, hdj, hjd, sσ66_6.1, sσ66_6.2, pσ66, cσ47_9.1, cσ47_9.2, cσ47_19.1, cσ47_19.2, fun a => (gσ47_16 a).1, fun a => (gσ47_16 a).2, cσ49_8.1, cσ49_8.2, cσ49_9.1, cσ49_9.2, cσ49_19.1, cσ49_19.2, cσ53_8.1, cσ53_8.2, cσ53_9.1, cσ53_9.2, cσ53_19.1, cσ53_19.2, cσ56_8.1, cσ56_8.2, cσ56_9.1, cσ56_9.2, cσ56_19.1, cσ56_19.2, cσ60_8.1, cσ60_8.2, cσ60_9.1, cσ60_9.2, cσ60_19.1, cσ60_19.2, cσ66_19.1, cσ66_19.2, fun a => (gσ66_16 a).1, fun a => (gσ66_16 a).2]
        refine ih9 _ ?_ ?_ ?_ ?_
        · exact rσ66
        · exact fσ66
        · first | exact ⟨⟨dq9, ag9, pg9, by omega⟩, ⟨ps9, by omega⟩, ⟨by omega, by omega, by omega⟩, okk⟩ | exact ⟨⟨dqF, ag9, pg9, ded⟩, ⟨ps9, s8⟩, ⟨by omega, by omega, by omega⟩, okk⟩
        · (try simp only [rII, rIJ, rIP, rJJ, rJI, rJP, rPP, rPI, rPJ, g1, g2, g3, g4, g5, g6, g7, g8, Nat.reduceEqDiff, Nat.reduceAdd, false_and, and_false, true_and, and_true, reduceIte, nZ0, nZ1, hdm, hmd, hdj, hjd, sσ66_6.1, sσ66_6.2, pσ66, cσ47_9.1, cσ47_9.2, cσ47_19.1, cσ47_19.2, fun a => (gσ47_16 a).1, fun a => (gσ47_16 a).2, cσ49_8.1, cσ49_8.2, cσ49_9.1, cσ49_9.2, cσ49_19.1, cσ49_19.2, cσ53_8.1, cσ53_8.2, cσ53_9.1, cσ53_9.2, cσ53_19.1, cσ53_19.2, cσ56_8.1, cσ56_8.2, cσ56_9.1, cσ56_9.2, cσ56_19.1, cσ56_19.2, cσ60_8.1, cσ60_8.2, cσ60_9.1, cσ60_9.2, cσ60_19.1, cσ60_19.2, cσ66_19.1, cσ66_19.2, fun a => (gσ66_16 a).1, fun a => (gσ66_16 a).2]) <;> (first | omega | with_reducible assumption | (unfold rng; omega) | (unfold rng; (repeat' split) <;> omega) | decide)
  refine ⟨_, L9 _ _ ?_ ?_ ?_ (Nat.lt_succ_self _)⟩
  · exact rσ46
  · exact fσ46
  · first | exact ⟨⟨dq9, ag9, pg9, by omega⟩, ⟨ps9, by omega⟩, ⟨by omega, by omega, by omega⟩, okk⟩ | exact ⟨⟨dqF, ag9, pg9, ded⟩, ⟨ps9, s8⟩, ⟨by omega, by omega, by omega⟩, okk⟩
set_option maxHeartbeats 1000000 in
theorem s_X16_compared {ra : Nat → Nat} {jx : Nat → Nat → Nat} {rm : Nat} {n : Nat} {da : Nat} {o : Int} {dp : Int → Int} {ex : Int → Prop} (g : Geo ra jx rm) {σ : Sg} {v1 : Int} (rσ : Rg ra jx rm σ) (hps : PsI rm σ) (hd : gP σ rm 18 = some da) (hda : da = ra 15 ∨ da = ra 16) (h1 : 0 ≤ v1 ∧ v1 < 16) (hN : 0 ≤ gI σ da 17 ∧ gI σ da 17 ≤ 4 * cn rm σ) (hpg : PgI jx da σ dp ex) (hdp : 0 ≤ dp (gI σ da 17) ∧ dp (gI σ da 17) ≤ 3 * gI σ rm 19 + 0) (hex : ∀ pc, gI σ da 17 ≤ pc → ¬ ex pc) (hfu : 7 * (11 - gI σ rm 19) - 3 ≤ (n : Int) + 1) (ih0 : ∀ {da : Nat} {o : Int} {dp : Int → Int} {ex : Int → Prop} (_ : Geo ra jx rm) {σ : Sg} {v1 : Int} (_ : Rg ra jx rm σ) (_ : PsI rm σ) (_ : gP σ rm 18 = some da) (_ : da = ra 15 ∨ da = ra 16) (_ : 0 ≤ v1 ∧ v1 < 16) (_ : 0 ≤ gI σ da 17 ∧ gI σ da 17 ≤ 4 * cn rm σ) (_ : PgI jx da σ dp ex) (_ : 0 ≤ dp (gI σ da 17) ∧ dp (gI σ da 17) ≤ 3 * gI σ rm 19 + 0) (_ : ∀ pc, gI σ da 17 ≤ pc → ¬ ex pc) (_ : 7 * (11 - gI σ rm 19) - 0 ≤ (n : Int)) {Q : Sg → Unit → Prop} {X : Sg → String → Prop} (_ : ∀ (σ' : Sg) (r : Unit), Rg ra jx rm σ' → FdO ra jx rm da o [15, 16] [4, 5, 7, 8, 9, 10, 11, 12, 13, 19] [15, 16] σ σ' → ((∃ dq : Int → Int, (∀ pc, pc ≤ gI σ da 17 → dq pc = dp pc) ∧ PgI jx da σ' dq ex ∧ dq (gI σ' da 17) = dp (gI σ da 17) + 1) ∧ PsI rm σ' ∧ gI σ' da 17 - 4 * cn rm σ' ≤ gI σ da 17 - 4 * cn rm σ ∧ gI σ' rm 19 = gI σ rm 19 ∧ gI σ da 17 < gI σ' da 17 ∧ (∀ k, k ≠ 17 → gI σ' da k = gI σ da k)) → Q σ' r) (_ : ∀ (σ' : Sg) (E : String), Rg ra jx rm σ' → FdO ra jx rm da o [15, 16] [4, 5, 7, 8, 9, 10, 11, 12, 13, 19] [15, 16] σ σ' → (E = "StreamHouseModel$Fault") → X σ' E), wrec ra jx rm n 0 v1 σ Q X) (ih1 : ∀ {da : Nat} {o : Int} {dp : Int → Int} {ex : Int → Prop} (_ : Geo ra jx rm) {σ : Sg} {v1 : Int} (_ : Rg ra jx rm σ) (_ : PsI rm σ) (_ : gP σ rm 18 = some da) (_ : da = ra 15 ∨ da = ra 16) (_ : 0 ≤ v1 ∧ v1 < 16) (_ : 0 ≤ gI σ da 17 ∧ gI σ da 17 ≤ 4 * cn rm σ) (_ : PgI jx da σ dp ex) (_ : 0 ≤ dp (gI σ da 17) ∧ dp (gI σ da 17) ≤ 3 * gI σ rm 19 + 0) (_ : ∀ pc, gI σ da 17 ≤ pc → ¬ ex pc) (_ : 7 * (11 - gI σ rm 19) - 1 ≤ (n : Int)) {Q : Sg → Unit → Prop} {X : Sg → String → Prop} (_ : ∀ (σ' : Sg) (r : Unit), Rg ra jx rm σ' → FdO ra jx rm da o [15, 16] [4, 5, 7, 8, 9, 10, 11, 12, 13, 19] [15, 16] σ σ' → ((∃ dq : Int → Int, (∀ pc, pc ≤ gI σ da 17 → dq pc = dp pc) ∧ PgI jx da σ' dq ex ∧ dq (gI σ' da 17) = dp (gI σ da 17) + 1) ∧ PsI rm σ' ∧ gI σ' da 17 - 4 * cn rm σ' ≤ gI σ da 17 - 4 * cn rm σ ∧ gI σ' rm 19 = gI σ rm 19 ∧ gI σ da 17 < gI σ' da 17 ∧ (∀ k, k ≠ 17 → gI σ' da k = gI σ da k)) → Q σ' r) (_ : ∀ (σ' : Sg) (E : String), Rg ra jx rm σ' → FdO ra jx rm da o [15, 16] [4, 5, 7, 8, 9, 10, 11, 12, 13, 19] [15, 16] σ σ' → (E = "StreamHouseModel$Fault") → X σ' E), wrec ra jx rm n 1 v1 σ Q X) (ih2 : ∀ {da : Nat} {o : Int} {dp : Int → Int} {ex : Int → Prop} (_ : Geo ra jx rm) {σ : Sg} {v1 : Int} (_ : Rg ra jx rm σ) (_ : PsI rm σ) (_ : gP σ rm 18 = some da) (_ : da = ra 15 ∨ da = ra 16) (_ : 0 ≤ v1 ∧ v1 < 16) (_ : 0 ≤ gI σ da 17 ∧ gI σ da 17 ≤ 4 * cn rm σ) (_ : PgI jx da σ dp ex) (_ : 0 ≤ dp (gI σ da 17) ∧ dp (gI σ da 17) ≤ 3 * gI σ rm 19 + 0) (_ : ∀ pc, gI σ da 17 ≤ pc → ¬ ex pc) (_ : 7 * (11 - gI σ rm 19) - 2 ≤ (n : Int)) {Q : Sg → Unit → Prop} {X : Sg → String → Prop} (_ : ∀ (σ' : Sg) (r : Unit), Rg ra jx rm σ' → FdO ra jx rm da o [15, 16] [4, 5, 7, 8, 9, 10, 11, 12, 13, 19] [15, 16] σ σ' → ((∃ dq : Int → Int, (∀ pc, pc ≤ gI σ da 17 → dq pc = dp pc) ∧ PgI jx da σ' dq ex ∧ dq (gI σ' da 17) = dp (gI σ da 17) + 1) ∧ PsI rm σ' ∧ gI σ' da 17 - 4 * cn rm σ' ≤ gI σ da 17 - 4 * cn rm σ ∧ gI σ' rm 19 = gI σ rm 19 ∧ gI σ da 17 < gI σ' da 17 ∧ (∀ k, k ≠ 17 → gI σ' da k = gI σ da k)) → Q σ' r) (_ : ∀ (σ' : Sg) (E : String), Rg ra jx rm σ' → FdO ra jx rm da o [15, 16] [4, 5, 7, 8, 9, 10, 11, 12, 13, 19] [15, 16] σ σ' → (E = "StreamHouseModel$Fault") → X σ' E), wrec ra jx rm n 2 v1 σ Q X) (ih3 : ∀ {da : Nat} {o : Int} {dp : Int → Int} {ex : Int → Prop} (_ : Geo ra jx rm) {σ : Sg} {v1 : Int} (_ : Rg ra jx rm σ) (_ : PsI rm σ) (_ : gP σ rm 18 = some da) (_ : da = ra 15 ∨ da = ra 16) (_ : 0 ≤ v1 ∧ v1 < 16) (_ : 0 ≤ gI σ da 17 ∧ gI σ da 17 ≤ 4 * cn rm σ) (_ : PgI jx da σ dp ex) (_ : 0 ≤ dp (gI σ da 17) ∧ dp (gI σ da 17) ≤ 3 * gI σ rm 19 + 0) (_ : ∀ pc, gI σ da 17 ≤ pc → ¬ ex pc) (_ : 7 * (11 - gI σ rm 19) - 3 ≤ (n : Int)) {Q : Sg → Unit → Prop} {X : Sg → String → Prop} (_ : ∀ (σ' : Sg) (r : Unit), Rg ra jx rm σ' → FdO ra jx rm da o [15, 16] [4, 5, 7, 8, 9, 10, 11, 12, 13, 19] [15, 16] σ σ' → ((∃ dq : Int → Int, (∀ pc, pc ≤ gI σ da 17 → dq pc = dp pc) ∧ PgI jx da σ' dq ex ∧ dq (gI σ' da 17) = dp (gI σ da 17) + 1) ∧ PsI rm σ' ∧ gI σ' da 17 - 4 * cn rm σ' ≤ gI σ da 17 - 4 * cn rm σ ∧ gI σ' rm 19 = gI σ rm 19 ∧ gI σ da 17 < gI σ' da 17 ∧ (∀ k, k ≠ 17 → gI σ' da k = gI σ da k)) → Q σ' r) (_ : ∀ (σ' : Sg) (E : String), Rg ra jx rm σ' → FdO ra jx rm da o [15, 16] [4, 5, 7, 8, 9, 10, 11, 12, 13, 19] [15, 16] σ σ' → (E = "StreamHouseModel$Fault") → X σ' E), wrec ra jx rm n 3 v1 σ Q X) (ih4 : ∀ {da : Nat} {o : Int} {dp : Int → Int} {ex : Int → Prop} (_ : Geo ra jx rm) {σ : Sg} {v1 : Int} (_ : Rg ra jx rm σ) (_ : PsI rm σ) (_ : gP σ rm 18 = some da) (_ : da = ra 15 ∨ da = ra 16) (_ : 0 ≤ v1 ∧ v1 < 16) (_ : 0 ≤ gI σ da 17 ∧ gI σ da 17 ≤ 4 * cn rm σ) (_ : PgI jx da σ dp ex) (_ : 0 ≤ dp (gI σ da 17) ∧ dp (gI σ da 17) ≤ 3 * gI σ rm 19 + 1) (_ : ∀ pc, gI σ da 17 ≤ pc → ¬ ex pc) (_ : 7 * (11 - gI σ rm 19) - 4 ≤ (n : Int)) {Q : Sg → Unit → Prop} {X : Sg → String → Prop} (_ : ∀ (σ' : Sg) (r : Unit), Rg ra jx rm σ' → FdO ra jx rm da o [15, 16] [4, 5, 7, 8, 9, 10, 11, 12, 13, 19] [15, 16] σ σ' → ((∃ dq : Int → Int, (∀ pc, pc ≤ gI σ da 17 → dq pc = dp pc) ∧ PgI jx da σ' dq ex ∧ dq (gI σ' da 17) = dp (gI σ da 17) + 1) ∧ PsI rm σ' ∧ gI σ' da 17 - 4 * cn rm σ' ≤ gI σ da 17 - 4 * cn rm σ ∧ gI σ' rm 19 = gI σ rm 19 ∧ gI σ da 17 < gI σ' da 17 ∧ (∀ k, k ≠ 17 → gI σ' da k = gI σ da k)) → Q σ' r) (_ : ∀ (σ' : Sg) (E : String), Rg ra jx rm σ' → FdO ra jx rm da o [15, 16] [4, 5, 7, 8, 9, 10, 11, 12, 13, 19] [15, 16] σ σ' → (E = "StreamHouseModel$Fault") → X σ' E), wrec ra jx rm n 4 v1 σ Q X) (ih5 : ∀ {da : Nat} {o : Int} {dp : Int → Int} {ex : Int → Prop} (_ : Geo ra jx rm) {σ : Sg} {v1 : Int} (_ : Rg ra jx rm σ) (_ : PsI rm σ) (_ : gP σ rm 18 = some da) (_ : da = ra 15 ∨ da = ra 16) (_ : 0 ≤ v1 ∧ v1 < 16) (_ : 0 ≤ gI σ da 17 ∧ gI σ da 17 ≤ 4 * cn rm σ) (_ : PgI jx da σ dp ex) (_ : 0 ≤ dp (gI σ da 17) ∧ dp (gI σ da 17) ≤ 3 * gI σ rm 19 + 2) (_ : ∀ pc, gI σ da 17 ≤ pc → ¬ ex pc) (_ : 7 * (11 - gI σ rm 19) - 5 ≤ (n : Int)) {Q : Sg → Unit → Prop} {X : Sg → String → Prop} (_ : ∀ (σ' : Sg) (r : Unit), Rg ra jx rm σ' → FdO ra jx rm da o [15, 16] [4, 5, 7, 8, 9, 10, 11, 12, 13, 19] [15, 16] σ σ' → ((∃ dq : Int → Int, (∀ pc, pc ≤ gI σ da 17 → dq pc = dp pc) ∧ PgI jx da σ' dq ex ∧ dq (gI σ' da 17) = dp (gI σ da 17) + 1) ∧ PsI rm σ' ∧ gI σ' da 17 - 4 * cn rm σ' ≤ gI σ da 17 - 4 * cn rm σ ∧ gI σ' rm 19 = gI σ rm 19 ∧ gI σ da 17 < gI σ' da 17 ∧ (∀ k, k ≠ 17 → gI σ' da k = gI σ da k)) → Q σ' r) (_ : ∀ (σ' : Sg) (E : String), Rg ra jx rm σ' → FdO ra jx rm da o [15, 16] [4, 5, 7, 8, 9, 10, 11, 12, 13, 19] [15, 16] σ σ' → (E = "StreamHouseModel$Fault") → X σ' E), wrec ra jx rm n 5 v1 σ Q X) (ih6 : ∀ {da : Nat} {o : Int} {dp : Int → Int} {ex : Int → Prop} (_ : Geo ra jx rm) {σ : Sg} {v1 : Int} (_ : Rg ra jx rm σ) (_ : PsI rm σ) (_ : gP σ rm 18 = some da) (_ : da = ra 15 ∨ da = ra 16) (_ : 0 ≤ v1 ∧ v1 < 16) (_ : 0 ≤ gI σ da 17 ∧ gI σ da 17 ≤ 4 * cn rm σ) (_ : PgI jx da σ dp ex) (_ : 0 ≤ dp (gI σ da 17) ∧ dp (gI σ da 17) ≤ 3 * gI σ rm 19 + 3) (_ : ∀ pc, gI σ da 17 ≤ pc → ¬ ex pc) (_ : 7 * (11 - gI σ rm 19) - 6 ≤ (n : Int)) {Q : Sg → Unit → Prop} {X : Sg → String → Prop} (_ : ∀ (σ' : Sg) (r : Unit), Rg ra jx rm σ' → FdO ra jx rm da o [15, 16] [4, 5, 7, 8, 9, 10, 11, 12, 13, 19] [15, 16] σ σ' → ((∃ dq : Int → Int, (∀ pc, pc ≤ gI σ da 17 → dq pc = dp pc) ∧ PgI jx da σ' dq ex ∧ dq (gI σ' da 17) = dp (gI σ da 17) + 1) ∧ PsI rm σ' ∧ gI σ' da 17 - 4 * cn rm σ' ≤ gI σ da 17 - 4 * cn rm σ ∧ gI σ' rm 19 = gI σ rm 19 ∧ gI σ da 17 < gI σ' da 17 ∧ (∀ k, k ≠ 17 → gI σ' da k = gI σ da k)) → Q σ' r) (_ : ∀ (σ' : Sg) (E : String), Rg ra jx rm σ' → FdO ra jx rm da o [15, 16] [4, 5, 7, 8, 9, 10, 11, 12, 13, 19] [15, 16] σ σ' → (E = "StreamHouseModel$Fault") → X σ' E), wrec ra jx rm n 6 v1 σ Q X) {Q : Sg → Unit → Prop} {X : Sg → String → Prop} (hQ : ∀ (σ' : Sg) (r : Unit), Rg ra jx rm σ' → FdO ra jx rm da o [15, 16] [4, 5, 7, 8, 9, 10, 11, 12, 13, 19] [15, 16] σ σ' → ((∃ dq : Int → Int, (∀ pc, pc ≤ gI σ da 17 → dq pc = dp pc) ∧ PgI jx da σ' dq ex ∧ dq (gI σ' da 17) = dp (gI σ da 17) + 1) ∧ PsI rm σ' ∧ gI σ' da 17 - 4 * cn rm σ' ≤ gI σ da 17 - 4 * cn rm σ ∧ gI σ' rm 19 = gI σ rm 19 ∧ gI σ da 17 < gI σ' da 17 ∧ (∀ k, k ≠ 17 → gI σ' da k = gI σ da k)) → Q σ' r) (hX : ∀ (σ' : Sg) (E : String), Rg ra jx rm σ' → FdO ra jx rm da o [15, 16] [4, 5, 7, 8, 9, 10, 11, 12, 13, 19] [15, 16] σ σ' → (E = "StreamHouseModel$Fault") → X σ' E) : w_X16_compared_0 ra jx rm (wrec ra jx rm n) Q X σ v1 := by
  obtain ⟨g1, g2, g3, g4, g5, g6, g7, g8⟩ := id g
  have fσ : FdO ra jx rm da o [15, 16] [4, 5, 7, 8, 9, 10, 11, 12, 13, 19] [15, 16] σ σ := FdO.rf
  have hdm : ¬ da = rm := by rcases hda with q | q <;> rw [q] <;> exact g2 _
  have hmd : ¬ rm = da := fun q => hdm q.symm
  have hdj : ∀ a k, ¬ da = jx a k := fun a k => by rcases hda with q | q <;> rw [q] <;> exact g5 a k _
  have hjd : ∀ a k, ¬ jx a k = da := fun a k => by rcases hda with q | q <;> rw [q] <;> exact g4 a k _
  have q06 := rσ.2.1 6; simp only [rgS] at q06
  have q19 := rσ.2.1 19; simp only [rgS] at q19
  have ps9 := hps; have pg9 := hpg
  have okk : ∀ k, k ≠ 17 → gI σ da k = gI σ da k := fun _ _ => rfl
  have le6 := PsI.le hps
  unfold w_X16_compared_0
  try simp only [forall_eq, rII, rIJ, rIP, rJJ, rJI, rJP, rPP, rPI, rPJ, g1, g2, g3, g4, g5, g6, g7, g8, Nat.reduceEqDiff, Nat.reduceAdd, false_and, and_false, true_and, and_true, reduceIte, nZ0, nZ1, hdm, hmd, hdj, hjd]
  refine ih4 (o := o) (dp := dp) (ex := ex) g rσ (by exact ps9) (by (try simp only [rII, rIJ, rIP, rJJ, rJI, rJP, rPP, rPI, rPJ, g1, g2, g3, g4, g5, g6, g7, g8, Nat.reduceEqDiff, Nat.reduceAdd, false_and, and_false, true_and, and_true, reduceIte, nZ0, nZ1, hdm, hmd, hdj, hjd]) <;> first | exact hd | (rw [fσ.2.2.2.1 (by decide)]; exact hd)) hda h1 (by (try simp only [rII, rIJ, rIP, rJJ, rJI, rJP, rPP, rPI, rPJ, g1, g2, g3, g4, g5, g6, g7, g8, Nat.reduceEqDiff, Nat.reduceAdd, false_and, and_false, true_and, and_true, reduceIte, nZ0, nZ1, hdm, hmd, hdj, hjd]) <;> omega) (by exact pg9) (by (try simp only [rII, rIJ, rIP, rJJ, rJI, rJP, rPP, rPI, rPJ, g1, g2, g3, g4, g5, g6, g7, g8, Nat.reduceEqDiff, Nat.reduceAdd, false_and, and_false, true_and, and_true, reduceIte, nZ0, nZ1, hdm, hmd, hdj, hjd]) <;> omega) (by (try simp only [rII, rIJ, rIP, rJJ, rJI, rJP, rPP, rPI, rPJ, g1, g2, g3, g4, g5, g6, g7, g8, Nat.reduceEqDiff, Nat.reduceAdd, false_and, and_false, true_and, and_true, reduceIte, nZ0, nZ1, hdm, hmd, hdj, hjd]) <;> exact fun pc hp => hex pc (by omega)) (by (try simp only [rII, rIJ, rIP, rJJ, rJI, rJP, rPP, rPI, rPJ, g1, g2, g3, g4, g5, g6, g7, g8, Nat.reduceEqDiff, Nat.reduceAdd, false_and, and_false, true_and, and_true, reduceIte, nZ0, nZ1, hdm, hmd, hdj, hjd]) <;> omega) (fun σ15 _ rσ15 fc p1 => ?_) (fun σx E rx fx px => hX _ _ rx (FdO.tr fσ (FdO.mor (fx) (by decide) (by decide) (by decide))) px)
  have fσ15 : FdO ra jx rm da o [15, 16] [4, 5, 7, 8, 9, 10, 11, 12, 13, 19] [15, 16] σ σ15 := FdO.tr fσ (FdO.mor (fc) (by decide) (by decide) (by decide))
  obtain ⟨⟨dq9, ag9, pg9, de9⟩, ps9, cq9, n19, nl9, ok9⟩ := p1
  have okk : ∀ k, k ≠ 17 → gI σ15 da k = gI σ da k := fun k hk => (ok9 k hk).trans (by (try simp only [rII, rIJ, rIP, rJJ, rJI, rJP, rPP, rPI, rPJ, g1, g2, g3, g4, g5, g6, g7, g8, Nat.reduceEqDiff, Nat.reduceAdd, false_and, and_false, true_and, and_true, reduceIte, nZ0, nZ1, hdm, hmd, hdj, hjd]) <;> exact okk k hk)
  (try simp only [rII, rIJ, rIP, rJJ, rJI, rJP, rPP, rPI, rPJ, g1, g2, g3, g4, g5, g6, g7, g8, Nat.reduceEqDiff, Nat.reduceAdd, false_and, and_false, true_and, and_true, reduceIte, nZ0, nZ1, hdm, hmd, hdj, hjd] at cq9 n19 nl9 ag9 de9)
  have eo9 : gI σ da 17 = gI σ da 17 := by omega
  (try rw [eo9] at de9)
  have ag9 : ∀ pc, pc ≤ gI σ da 17 → dq9 pc = dp pc := fun pc hp => ag9 pc (by omega)
  have le6 := PsI.le ps9
  have s6n := (fσ15.2.1 6 (by decide)).1
  have sσ15_6 := fσ15.2.1 6 (by decide)
  have pσ15 := fσ15.2.2.2.1 (by decide)
  try simp only [rII, rIJ, rIP, rJJ, rJI, rJP, rPP, rPI, rPJ, g1, g2, g3, g4, g5, g6, g7, g8, Nat.reduceEqDiff, Nat.reduceAdd, false_and, and_false, true_and, and_true, reduceIte, nZ0, nZ1, hdm, hmd, hdj, hjd, sσ15_6.1, sσ15_6.2, pσ15] at p1
  try simp only [forall_eq, rII, rIJ, rIP, rJJ, rJI, rJP, rPP, rPI, rPJ, g1, g2, g3, g4, g5, g6, g7, g8, Nat.reduceEqDiff, Nat.reduceAdd, false_and, and_false, true_and, and_true, reduceIte, nZ0, nZ1, hdm, hmd, hdj, hjd, sσ15_6.1, sσ15_6.2, pσ15]
  refine s2_X16_see g rσ15 (by exact ps9) (fun σ16 _ rσ16 fc p2 => ?_) (fun σx E rx fx px => hX _ _ rx (FdO.tr fσ15 (FdO.mor (Fr.d fx hda (by decide)) (by decide) (by decide) (by decide))) px)
  have fσ16 : FdO ra jx rm da o [15, 16] [4, 5, 7, 8, 9, 10, 11, 12, 13, 19] [15, 16] σ σ16 := FdO.tr fσ15 (FdO.mor (Fr.d fc hda (by decide)) (by decide) (by decide) (by decide))
  have cσ16_19 := fc.2.1 19 (by decide)
  have ps9 := p2.1; have cq9 := p2.2
  have pg9 := PgI.fr pg9 hda fc (by decide)
  have n17 := congrFun (Fr.ob fc hda (by decide)) 17
  (try simp only [rII, rIJ, rIP, rJJ, rJI, rJP, rPP, rPI, rPJ, g1, g2, g3, g4, g5, g6, g7, g8, Nat.reduceEqDiff, Nat.reduceAdd, false_and, and_false, true_and, and_true, reduceIte, nZ0, nZ1, hdm, hmd, hdj, hjd, sσ15_6.1, sσ15_6.2, pσ15] at n17)
  have okk : ∀ k, k ≠ 17 → gI σ16 da k = gI σ da k := fun k hk => (congrFun (Fr.ob fc hda (by decide)) k).trans (by (try simp only [rII, rIJ, rIP, rJJ, rJI, rJP, rPP, rPI, rPJ, g1, g2, g3, g4, g5, g6, g7, g8, Nat.reduceEqDiff, Nat.reduceAdd, false_and, and_false, true_and, and_true, reduceIte, nZ0, nZ1, hdm, hmd, hdj, hjd, sσ15_6.1, sσ15_6.2, pσ15]) <;> exact okk k hk)
  have n19 := (fc.2.1 19 (by decide)).1
  (try simp only [rII, rIJ, rIP, rJJ, rJI, rJP, rPP, rPI, rPJ, g1, g2, g3, g4, g5, g6, g7, g8, Nat.reduceEqDiff, Nat.reduceAdd, false_and, and_false, true_and, and_true, reduceIte, nZ0, nZ1, hdm, hmd, hdj, hjd, sσ15_6.1, sσ15_6.2, pσ15] at n19)
  have le6 := PsI.le ps9
  have s6n := (fσ16.2.1 6 (by decide)).1
  have ded : dq9 (gI σ16 da 17) = dp (gI σ da 17) + 1 := by rw [n17]; exact de9
  have de9 := ded
  have sσ16_6 := fσ16.2.1 6 (by decide)
  have pσ16 := fσ16.2.2.2.1 (by decide)
  try simp only [rII, rIJ, rIP, rJJ, rJI, rJP, rPP, rPI, rPJ, g1, g2, g3, g4, g5, g6, g7, g8, Nat.reduceEqDiff, Nat.reduceAdd, false_and, and_false, true_and, and_true, reduceIte, nZ0, nZ1, hdm, hmd, hdj, hjd, sσ16_6.1, sσ16_6.2, pσ16, cσ16_19.1, cσ16_19.2] at p2
  try simp only [forall_eq, rII, rIJ, rIP, rJJ, rJI, rJP, rPP, rPI, rPJ, g1, g2, g3, g4, g5, g6, g7, g8, Nat.reduceEqDiff, Nat.reduceAdd, false_and, and_false, true_and, and_true, reduceIte, nZ0, nZ1, hdm, hmd, hdj, hjd, sσ16_6.1, sσ16_6.2, pσ16, cσ16_19.1, cσ16_19.2]
  have q3 := rσ16.2.1 9; simp only [rgS, hdm, hmd, hdj, hjd] at q3
  split
  · rename_i hc15
    skip
    unfold w_X16_compared_36
    try simp only [forall_eq, rII, rIJ, rIP, rJJ, rJI, rJP, rPP, rPI, rPJ, g1, g2, g3, g4, g5, g6, g7, g8, Nat.reduceEqDiff, Nat.reduceAdd, false_and, and_false, true_and, and_true, reduceIte, nZ0, nZ1, hdm, hmd, hdj, hjd, sσ16_6.1, sσ16_6.2, pσ16, cσ16_19.1, cσ16_19.2]
    rw [if_neg (show ¬ ((gI σ16 rm 9) ≠ 60) by omega)]
    unfold w_X16_compared_45
    try simp only [forall_eq, rII, rIJ, rIP, rJJ, rJI, rJP, rPP, rPI, rPJ, g1, g2, g3, g4, g5, g6, g7, g8, Nat.reduceEqDiff, Nat.reduceAdd, false_and, and_false, true_and, and_true, reduceIte, nZ0, nZ1, hdm, hmd, hdj, hjd, sσ16_6.1, sσ16_6.2, pσ16, cσ16_19.1, cσ16_19.2]
    unfold w_X16_compared_66
    try simp only [forall_eq, rII, rIJ, rIP, rJJ, rJI, rJP, rPP, rPI, rPJ, g1, g2, g3, g4, g5, g6, g7, g8, Nat.reduceEqDiff, Nat.reduceAdd, false_and, and_false, true_and, and_true, reduceIte, nZ0, nZ1, hdm, hmd, hdj, hjd, sσ16_6.1, sσ16_6.2, pσ16, cσ16_19.1, cσ16_19.2]
    refine s2_X16_take g rσ16 (by exact ps9) (by omega) (by omega) (fun σ17 _ rσ17 fc p4 => ?_)
    have fσ17 : FdO ra jx rm da o [15, 16] [4, 5, 7, 8, 9, 10, 11, 12, 13, 19] [15, 16] σ σ17 := FdO.tr fσ16 (FdO.mor (Fr.d fc hda (by decide)) (by decide) (by decide) (by decide))
    have cσ17_9 := fc.2.1 9 (by decide)
    have cσ17_19 := fc.2.1 19 (by decide)
    have ps9 := p4.1; have cq9 := p4.2
    have pg9 := PgI.fr pg9 hda fc (by decide)
    have n17 := congrFun (Fr.ob fc hda (by decide)) 17
    (try simp only [rII, rIJ, rIP, rJJ, rJI, rJP, rPP, rPI, rPJ, g1, g2, g3, g4, g5, g6, g7, g8, Nat.reduceEqDiff, Nat.reduceAdd, false_and, and_false, true_and, and_true, reduceIte, nZ0, nZ1, hdm, hmd, hdj, hjd, sσ16_6.1, sσ16_6.2, pσ16, cσ16_19.1, cσ16_19.2] at n17)
    have okk : ∀ k, k ≠ 17 → gI σ17 da k = gI σ da k := fun k hk => (congrFun (Fr.ob fc hda (by decide)) k).trans (by (try simp only [rII, rIJ, rIP, rJJ, rJI, rJP, rPP, rPI, rPJ, g1, g2, g3, g4, g5, g6, g7, g8, Nat.reduceEqDiff, Nat.reduceAdd, false_and, and_false, true_and, and_true, reduceIte, nZ0, nZ1, hdm, hmd, hdj, hjd, sσ16_6.1, sσ16_6.2, pσ16, cσ16_19.1, cσ16_19.2]) <;> exact okk k hk)
    have n19 := (fc.2.1 19 (by decide)).1
    have le6 := PsI.le ps9
    have s6n := (fσ17.2.1 6 (by decide)).1
    have ded : dq9 (gI σ17 da 17) = dp (gI σ da 17) + 1 := by rw [n17]; exact de9
    have de9 := ded
    have sσ17_6 := fσ17.2.1 6 (by decide)
    have pσ17 := fσ17.2.2.2.1 (by decide)
    try simp only [rII, rIJ, rIP, rJJ, rJI, rJP, rPP, rPI, rPJ, g1, g2, g3, g4, g5, g6, g7, g8, Nat.reduceEqDiff, Nat.reduceAdd, false_and, and_false, true_and, and_true, reduceIte, nZ0, nZ1, hdm, hmd, hdj, hjd, sσ17_6.1, sσ17_6.2, pσ17, cσ16_19.1, cσ16_19.2, cσ17_9.1, cσ17_9.2, cσ17_19.1, cσ17_19.2] at p4
    try simp only [forall_eq, rII, rIJ, rIP, rJJ, rJI, rJP, rPP, rPI, rPJ, g1, g2, g3, g4, g5, g6, g7, g8, Nat.reduceEqDiff, Nat.reduceAdd, false_and, and_false, true_and, and_true, reduceIte, nZ0, nZ1, hdm, hmd, hdj, hjd, sσ17_6.1, sσ17_6.2, pσ17, cσ16_19.1, cσ16_19.2, cσ17_9.1, cσ17_9.2, cσ17_19.1, cσ17_19.2]
    refine ih4 (o := o) (dp := dq9) (ex := ex) g rσ17 (by exact ps9) (by (try simp only [rII, rIJ, rIP, rJJ, rJI, rJP, rPP, rPI, rPJ, g1, g2, g3, g4, g5, g6, g7, g8, Nat.reduceEqDiff, Nat.reduceAdd, false_and, and_false, true_and, and_true, reduceIte, nZ0, nZ1, hdm, hmd, hdj, hjd, sσ17_6.1, sσ17_6.2, pσ17, cσ16_19.1, cσ16_19.2, cσ17_9.1, cσ17_9.2, cσ17_19.1, cσ17_19.2]) <;> first | exact hd | (rw [fσ17.2.2.2.1 (by decide)]; exact hd)) hda h1 (by (try simp only [rII, rIJ, rIP, rJJ, rJI, rJP, rPP, rPI, rPJ, g1, g2, g3, g4, g5, g6, g7, g8, Nat.reduceEqDiff, Nat.reduceAdd, false_and, and_false, true_and, and_true, reduceIte, nZ0, nZ1, hdm, hmd, hdj, hjd, sσ17_6.1, sσ17_6.2, pσ17, cσ16_19.1, cσ16_19.2, cσ17_9.1, cσ17_9.2, cσ17_19.1, cσ17_19.2]) <;> omega) (by exact pg9) (by (try simp only [rII, rIJ, rIP, rJJ, rJI, rJP, rPP, rPI, rPJ, g1, g2, g3, g4, g5, g6, g7, g8, Nat.reduceEqDiff, Nat.reduceAdd, false_and, and_false, true_and, and_true, reduceIte, nZ0, nZ1, hdm, hmd, hdj, hjd, sσ17_6.1, sσ17_6.2, pσ17, cσ16_19.1, cσ16_19.2, cσ17_9.1, cσ17_9.2, cσ17_19.1, cσ17_19.2]) <;> omega) (by (try simp only [rII, rIJ, rIP, rJJ, rJI, rJP, rPP, rPI, rPJ, g1, g2, g3, g4, g5, g6, g7, g8, Nat.reduceEqDiff, Nat.reduceAdd, false_and, and_false, true_and, and_true, reduceIte, nZ0, nZ1, hdm, hmd, hdj, hjd, sσ17_6.1, sσ17_6.2, pσ17, cσ16_19.1, cσ16_19.2, cσ17_9.1, cσ17_9.2, cσ17_19.1, cσ17_19.2]) <;> exact fun pc hp => hex pc (by omega)) (by (try simp only [rII, rIJ, rIP, rJJ, rJI, rJP, rPP, rPI, rPJ, g1, g2, g3, g4, g5, g6, g7, g8, Nat.reduceEqDiff, Nat.reduceAdd, false_and, and_false, true_and, and_true, reduceIte, nZ0, nZ1, hdm, hmd, hdj, hjd, sσ17_6.1, sσ17_6.2, pσ17, cσ16_19.1, cσ16_19.2, cσ17_9.1, cσ17_9.2, cσ17_19.1, cσ17_19.2]) <;> omega) (fun σ18 _ rσ18 fc p5 => ?_) (fun σx E rx fx px => hX _ _ rx (FdO.tr fσ17 (FdO.mor (fx) (by decide) (by decide) (by decide))) px)
    have fσ18 : FdO ra jx rm da o [15, 16] [4, 5, 7, 8, 9, 10, 11, 12, 13, 19] [15, 16] σ σ18 := FdO.tr fσ17 (FdO.mor (fc) (by decide) (by decide) (by decide))
    have ag7 := ag9; have de7 := de9
    obtain ⟨⟨dq8, ag8, pg9, de8⟩, ps9, cq9, n19, nl9, ok9⟩ := p5
    have okk : ∀ k, k ≠ 17 → gI σ18 da k = gI σ da k := fun k hk => (ok9 k hk).trans (okk k hk)
    (try simp only [rII, rIJ, rIP, rJJ, rJI, rJP, rPP, rPI, rPJ, g1, g2, g3, g4, g5, g6, g7, g8, Nat.reduceEqDiff, Nat.reduceAdd, false_and, and_false, true_and, and_true, reduceIte, nZ0, nZ1, hdm, hmd, hdj, hjd, sσ17_6.1, sσ17_6.2, pσ17, cσ16_19.1, cσ16_19.2, cσ17_9.1, cσ17_9.2, cσ17_19.1, cσ17_19.2] at cq9 n19 nl9 ag8 de8)
    have ag9 : ∀ pc, pc ≤ gI σ da 17 → dq8 pc = dp pc := fun pc hp => by rw [ag8 pc (by omega)]; exact ag7 pc hp
    have de9 : dq8 (gI σ18 da 17) = dp (gI σ da 17) + 2 := by omega
    have le6 := PsI.le ps9
    have s6n := (fσ18.2.1 6 (by decide)).1
    have sσ18_6 := fσ18.2.1 6 (by decide)
    have pσ18 := fσ18.2.2.2.1 (by decide)
    try simp only [rII, rIJ, rIP, rJJ, rJI, rJP, rPP, rPI, rPJ, g1, g2, g3, g4, g5, g6, g7, g8, Nat.reduceEqDiff, Nat.reduceAdd, false_and, and_false, true_and, and_true, reduceIte, nZ0, nZ1, hdm, hmd, hdj, hjd, sσ18_6.1, sσ18_6.2, pσ18, cσ16_19.1, cσ16_19.2, cσ17_9.1, cσ17_9.2, cσ17_19.1, cσ17_19.2] at p5
    try simp only [forall_eq, rII, rIJ, rIP, rJJ, rJI, rJP, rPP, rPI, rPJ, g1, g2, g3, g4, g5, g6, g7, g8, Nat.reduceEqDiff, Nat.reduceAdd, false_and, and_false, true_and, and_true, reduceIte, nZ0, nZ1, hdm, hmd, hdj, hjd, sσ18_6.1, sσ18_6.2, pσ18, cσ16_19.1, cσ16_19.2, cσ17_9.1, cσ17_9.2, cσ17_19.1, cσ17_19.2]
    refine ⟨da, by exact hd, hda, ?_⟩
    refine s2_X15_step (o := o) g rσ18 hda (by omega) (by omega) (fun σ20 r21 rσ20 fc p6 => ?_)
    have fσ20 : FdO ra jx rm da o [15, 16] [4, 5, 7, 8, 9, 10, 11, 12, 13, 19] [15, 16] σ σ20 := FdO.tr fσ18 (FdO.mor (fc) (by decide) (by decide) (by decide))
    have cσ20_8 := fc.2.1 8 (by decide)
    have cσ20_9 := fc.2.1 9 (by decide)
    have cσ20_19 := fc.2.1 19 (by decide)
    have st0 := p6.1; have st1 := p6.2.1; have st2 := p6.2.2.1; have st3 := p6.2.2.2.1
    have okk : ∀ k, k ≠ 17 → gI σ20 da k = gI σ da k := fun k hk => by rw [p6.2.2.2.2 k hk]; exact okk k hk
    have pf9 := PsI.frj ps9 (FdO.fj fc) (by decide)
    have ps9 := pf9.1; have cq9 := pf9.2
    have n19 := (fc.2.1 19 (by decide)).1
    have le6 := PsI.le ps9
    have s6n := (fσ20.2.1 6 (by decide)).1
    obtain ⟨dq9, ag8, pg9, de8⟩ := PgI.putE (d' := dp (gI σ da 17) + 1) pg9 (by omega) st1 st2 st3 de9 (by omega) (by omega) (Or.inr (Or.inr (Or.inl ⟨by omega, by omega, by omega, by omega⟩)))
    have ag9 : ∀ pc, pc ≤ gI σ da 17 → dq9 pc = dp pc := fun pc hp => (ag8 pc (by omega)).trans (ag9 pc hp)
    have de9 := de8
    have sσ20_6 := fσ20.2.1 6 (by decide)
    have pσ20 := fσ20.2.2.2.1 (by decide)
    try simp only [rII, rIJ, rIP, rJJ, rJI, rJP, rPP, rPI, rPJ, g1, g2, g3, g4, g5, g6, g7, g8, Nat.reduceEqDiff, Nat.reduceAdd, false_and, and_false, true_and, and_true, reduceIte, nZ0, nZ1, hdm, hmd, hdj, hjd, sσ20_6.1, sσ20_6.2, pσ20, cσ16_19.1, cσ16_19.2, cσ17_9.1, cσ17_9.2, cσ17_19.1, cσ17_19.2, cσ20_8.1, cσ20_8.2, cσ20_9.1, cσ20_9.2, cσ20_19.1, cσ20_19.2] at p6
    try simp only [forall_eq, rII, rIJ, rIP, rJJ, rJI, rJP, rPP, rPI, rPJ, g1, g2, g3, g4, g5, g6, g7, g8, Nat.reduceEqDiff, Nat.reduceAdd, false_and, and_false, true_and, and_true, reduceIte, nZ0, nZ1, hdm, hmd, hdj, hjd, sσ20_6.1, sσ20_6.2, pσ20, cσ16_19.1, cσ16_19.2, cσ17_9.1, cσ17_9.2, cσ17_19.1, cσ17_19.2, cσ20_8.1, cσ20_8.2, cσ20_9.1, cσ20_9.2, cσ20_19.1, cσ20_19.2]
    unfold w_X16_compared_86
    try simp only [forall_eq, rII, rIJ, rIP, rJJ, rJI, rJP, rPP, rPI, rPJ, g1, g2, g3, g4, g5, g6, g7, g8, Nat.reduceEqDiff, Nat.reduceAdd, false_and, and_false, true_and, and_true, reduceIte, nZ0, nZ1, hdm, hmd, hdj, hjd, sσ20_6.1, sσ20_6.2, pσ20, cσ16_19.1, cσ16_19.2, cσ17_9.1, cσ17_9.2, cσ17_19.1, cσ17_19.2, cσ20_8.1, cσ20_8.2, cσ20_9.1, cσ20_9.2, cσ20_19.1, cσ20_19.2]
    refine hQ _ _ ?_ ?_ ?_
    · exact rσ20
    · exact fσ20
    · exact ⟨⟨dq9, ag9, pg9, by omega⟩, ps9, by omega, by omega, by omega, okk⟩
  · rename_i hc15
    skip
    unfold w_X16_compared_18
    try simp only [forall_eq, rII, rIJ, rIP, rJJ, rJI, rJP, rPP, rPI, rPJ, g1, g2, g3, g4, g5, g6, g7, g8, Nat.reduceEqDiff, Nat.reduceAdd, false_and, and_false, true_and, and_true, reduceIte, nZ0, nZ1, hdm, hmd, hdj, hjd, sσ16_6.1, sσ16_6.2, pσ16, cσ16_19.1, cσ16_19.2]
    split
    · rename_i hc24
      skip
      unfold w_X16_compared_36
      try simp only [forall_eq, rII, rIJ, rIP, rJJ, rJI, rJP, rPP, rPI, rPJ, g1, g2, g3, g4, g5, g6, g7, g8, Nat.reduceEqDiff, Nat.reduceAdd, false_and, and_false, true_and, and_true, reduceIte, nZ0, nZ1, hdm, hmd, hdj, hjd, sσ16_6.1, sσ16_6.2, pσ16, cσ16_19.1, cσ16_19.2]
      rw [if_pos (show ((gI σ16 rm 9) ≠ 60) by omega)]
      unfold w_X16_compared_50
      try simp only [forall_eq, rII, rIJ, rIP, rJJ, rJI, rJP, rPP, rPI, rPJ, g1, g2, g3, g4, g5, g6, g7, g8, Nat.reduceEqDiff, Nat.reduceAdd, false_and, and_false, true_and, and_true, reduceIte, nZ0, nZ1, hdm, hmd, hdj, hjd, sσ16_6.1, sσ16_6.2, pσ16, cσ16_19.1, cσ16_19.2]
      rw [if_neg (show ¬ ((gI σ16 rm 9) ≠ 62) by omega)]
      unfold w_X16_compared_59
      try simp only [forall_eq, rII, rIJ, rIP, rJJ, rJI, rJP, rPP, rPI, rPJ, g1, g2, g3, g4, g5, g6, g7, g8, Nat.reduceEqDiff, Nat.reduceAdd, false_and, and_false, true_and, and_true, reduceIte, nZ0, nZ1, hdm, hmd, hdj, hjd, sσ16_6.1, sσ16_6.2, pσ16, cσ16_19.1, cσ16_19.2]
      unfold w_X16_compared_66
      try simp only [forall_eq, rII, rIJ, rIP, rJJ, rJI, rJP, rPP, rPI, rPJ, g1, g2, g3, g4, g5, g6, g7, g8, Nat.reduceEqDiff, Nat.reduceAdd, false_and, and_false, true_and, and_true, reduceIte, nZ0, nZ1, hdm, hmd, hdj, hjd, sσ16_6.1, sσ16_6.2, pσ16, cσ16_19.1, cσ16_19.2]
      refine s2_X16_take g rσ16 (by exact ps9) (by omega) (by omega) (fun σ22 _ rσ22 fc p7 => ?_)
      have fσ22 : FdO ra jx rm da o [15, 16] [4, 5, 7, 8, 9, 10, 11, 12, 13, 19] [15, 16] σ σ22 := FdO.tr fσ16 (FdO.mor (Fr.d fc hda (by decide)) (by decide) (by decide) (by decide))
      have cσ22_9 := fc.2.1 9 (by decide)
      have cσ22_19 := fc.2.1 19 (by decide)
      have ps9 := p7.1; have cq9 := p7.2
      have pg9 := PgI.fr pg9 hda fc (by decide)
      have n17 := congrFun (Fr.ob fc hda (by decide)) 17
      (try simp only [rII, rIJ, rIP, rJJ, rJI, rJP, rPP, rPI, rPJ, g1, g2, g3, g4, g5, g6, g7, g8, Nat.reduceEqDiff, Nat.reduceAdd, false_and, and_false, true_and, and_true, reduceIte, nZ0, nZ1, hdm, hmd, hdj, hjd, sσ16_6.1, sσ16_6.2, pσ16, cσ16_19.1, cσ16_19.2] at n17)
      have okk : ∀ k, k ≠ 17 → gI σ22 da k = gI σ da k := fun k hk => (congrFun (Fr.ob fc hda (by decide)) k).trans (by (try simp only [rII, rIJ, rIP, rJJ, rJI, rJP, rPP, rPI, rPJ, g1, g2, g3, g4, g5, g6, g7, g8, Nat.reduceEqDiff, Nat.reduceAdd, false_and, and_false, true_and, and_true, reduceIte, nZ0, nZ1, hdm, hmd, hdj, hjd, sσ16_6.1, sσ16_6.2, pσ16, cσ16_19.1, cσ16_19.2]) <;> exact okk k hk)
      have n19 := (fc.2.1 19 (by decide)).1
      have le6 := PsI.le ps9
      have s6n := (fσ22.2.1 6 (by decide)).1
      have ded : dq9 (gI σ22 da 17) = dp (gI σ da 17) + 1 := by rw [n17]; exact de9
      have de9 := ded
      have sσ22_6 := fσ22.2.1 6 (by decide)
      have pσ22 := fσ22.2.2.2.1 (by decide)
      try simp only [rII, rIJ, rIP, rJJ, rJI, rJP, rPP, rPI, rPJ, g1, g2, g3, g4, g5, g6, g7, g8, Nat.reduceEqDiff, Nat.reduceAdd, false_and, and_false, true_and, and_true, reduceIte, nZ0, nZ1, hdm, hmd, hdj, hjd, sσ22_6.1, sσ22_6.2, pσ22, cσ16_19.1, cσ16_19.2, cσ22_9.1, cσ22_9.2, cσ22_19.1, cσ22_19.2] at p7
      try simp only [forall_eq, rII, rIJ, rIP, rJJ, rJI, rJP, rPP, rPI, rPJ, g1, g2, g3, g4, g5, g6, g7, g8, Nat.reduceEqDiff, Nat.reduceAdd, false_and, and_false, true_and, and_true, reduceIte, nZ0, nZ1, hdm, hmd, hdj, hjd, sσ22_6.1, sσ22_6.2, pσ22, cσ16_19.1, cσ16_19.2, cσ22_9.1, cσ22_9.2, cσ22_19.1, cσ22_19.2]
      refine ih4 (o := o) (dp := dq9) (ex := ex) g rσ22 (by exact ps9) (by (try simp only [rII, rIJ, rIP, rJJ, rJI, rJP, rPP, rPI, rPJ, g1, g2, g3, g4, g5, g6, g7, g8, Nat.reduceEqDiff, Nat.reduceAdd, false_and, and_false, true_and, and_true, reduceIte, nZ0, nZ1, hdm, hmd, hdj, hjd, sσ22_6.1, sσ22_6.2, pσ22, cσ16_19.1, cσ16_19.2, cσ22_9.1, cσ22_9.2, cσ22_19.1, cσ22_19.2]) <;> first | exact hd | (rw [fσ22.2.2.2.1 (by decide)]; exact hd)) hda h1 (by (try simp only [rII, rIJ, rIP, rJJ, rJI, rJP, rPP, rPI, rPJ, g1, g2, g3, g4, g5, g6, g7, g8, Nat.reduceEqDiff, Nat.reduceAdd, false_and, and_false, true_and, and_true, reduceIte, nZ0, nZ1, hdm, hmd, hdj, hjd, sσ22_6.1, sσ22_6.2, pσ22, cσ16_19.1, cσ16_19.2, cσ22_9.1, cσ22_9.2, cσ22_19.1, cσ22_19.2]) <;> omega) (by exact pg9) (by (try simp only [rII, rIJ, rIP, rJJ, rJI, rJP, rPP, rPI, rPJ, g1, g2, g3, g4, g5, g6, g7, g8, Nat.reduceEqDiff, Nat.reduceAdd, false_and, and_false, true_and, and_true, reduceIte, nZ0, nZ1, hdm, hmd, hdj, hjd, sσ22_6.1, sσ22_6.2, pσ22, cσ16_19.1, cσ16_19.2, cσ22_9.1, cσ22_9.2, cσ22_19.1, cσ22_19.2]) <;> omega) (by (try simp only [rII, rIJ, rIP, rJJ, rJI, rJP, rPP, rPI, rPJ, g1, g2, g3, g4, g5, g6, g7, g8, Nat.reduceEqDiff, Nat.reduceAdd, false_and, and_false, true_and, and_true, reduceIte, nZ0, nZ1, hdm, hmd, hdj, hjd, sσ22_6.1, sσ22_6.2, pσ22, cσ16_19.1, cσ16_19.2, cσ22_9.1, cσ22_9.2, cσ22_19.1, cσ22_19.2]) <;> exact fun pc hp => hex pc (by omega)) (by (try simp only [rII, rIJ, rIP, rJJ, rJI, rJP, rPP, rPI, rPJ, g1, g2, g3, g4, g5, g6, g7, g8, Nat.reduceEqDiff, Nat.reduceAdd, false_and, and_false, true_and, and_true, reduceIte, nZ0, nZ1, hdm, hmd, hdj, hjd, sσ22_6.1, sσ22_6.2, pσ22, cσ16_19.1, cσ16_19.2, cσ22_9.1, cσ22_9.2, cσ22_19.1, cσ22_19.2]) <;> omega) (fun σ23 _ rσ23 fc p8 => ?_) (fun σx E rx fx px => hX _ _ rx (FdO.tr fσ22 (FdO.mor (fx) (by decide) (by decide) (by decide))) px)
      have fσ23 : FdO ra jx rm da o [15, 16] [4, 5, 7, 8, 9, 10, 11, 12, 13, 19] [15, 16] σ σ23 := FdO.tr fσ22 (FdO.mor (fc) (by decide) (by decide) (by decide))
      have ag7 := ag9; have de7 := de9
      obtain ⟨⟨dq8, ag8, pg9, de8⟩, ps9, cq9, n19, nl9, ok9⟩ := p8
      have okk : ∀ k, k ≠ 17 → gI σ23 da k = gI σ da k := fun k hk => (ok9 k hk).trans (okk k hk)
      (try simp only [rII, rIJ, rIP, rJJ, rJI, rJP, rPP, rPI, rPJ, g1, g2, g3, g4, g5, g6, g7, g8, Nat.reduceEqDiff, Nat.reduceAdd, false_and, and_false, true_and, and_true, reduceIte, nZ0, nZ1, hdm, hmd, hdj, hjd, sσ22_6.1, sσ22_6.2, pσ22, cσ16_19.1, cσ16_19.2, cσ22_9.1, cσ22_9.2, cσ22_19.1, cσ22_19.2] at cq9 n19 nl9 ag8 de8)
      have ag9 : ∀ pc, pc ≤ gI σ da 17 → dq8 pc = dp pc := fun pc hp => by rw [ag8 pc (by omega)]; exact ag7 pc hp
      have de9 : dq8 (gI σ23 da 17) = dp (gI σ da 17) + 2 := by omega
      have le6 := PsI.le ps9
      have s6n := (fσ23.2.1 6 (by decide)).1
      have sσ23_6 := fσ23.2.1 6 (by decide)
      have pσ23 := fσ23.2.2.2.1 (by decide)
      try simp only [rII, rIJ, rIP, rJJ, rJI, rJP, rPP, rPI, rPJ, g1, g2, g3, g4, g5, g6, g7, g8, Nat.reduceEqDiff, Nat.reduceAdd, false_and, and_false, true_and, and_true, reduceIte, nZ0, nZ1, hdm, hmd, hdj, hjd, sσ23_6.1, sσ23_6.2, pσ23, cσ16_19.1, cσ16_19.2, cσ22_9.1, cσ22_9.2, cσ22_19.1, cσ22_19.2] at p8
      try simp only [forall_eq, rII, rIJ, rIP, rJJ, rJI, rJP, rPP, rPI, rPJ, g1, g2, g3, g4, g5, g6, g7, g8, Nat.reduceEqDiff, Nat.reduceAdd, false_and, and_false, true_and, and_true, reduceIte, nZ0, nZ1, hdm, hmd, hdj, hjd, sσ23_6.1, sσ23_6.2, pσ23, cσ16_19.1, cσ16_19.2, cσ22_9.1, cσ22_9.2, cσ22_19.1, cσ22_19.2]
      refine ⟨da, by exact hd, hda, ?_⟩
      refine s2_X15_step (o := o) g rσ23 hda (by omega) (by omega) (fun σ25 r26 rσ25 fc p9 => ?_)
      have fσ25 : FdO ra jx rm da o [15, 16] [4, 5, 7, 8, 9, 10, 11, 12, 13, 19] [15, 16] σ σ25 := FdO.tr fσ23 (FdO.mor (fc) (by decide) (by decide) (by decide))
      have cσ25_8 := fc.2.1 8 (by decide)
      have cσ25_9 := fc.2.1 9 (by decide)
      have cσ25_19 := fc.2.1 19 (by decide)
      have st0 := p9.1; have st1 := p9.2.1; have st2 := p9.2.2.1; have st3 := p9.2.2.2.1
      have okk : ∀ k, k ≠ 17 → gI σ25 da k = gI σ da k := fun k hk => by rw [p9.2.2.2.2 k hk]; exact okk k hk
      have pf9 := PsI.frj ps9 (FdO.fj fc) (by decide)
      have ps9 := pf9.1; have cq9 := pf9.2
      have n19 := (fc.2.1 19 (by decide)).1
      have le6 := PsI.le ps9
      have s6n := (fσ25.2.1 6 (by decide)).1
      obtain ⟨dq9, ag8, pg9, de8⟩ := PgI.putE (d' := dp (gI σ da 17) + 1) pg9 (by omega) st1 st2 st3 de9 (by omega) (by omega) (Or.inr (Or.inr (Or.inl ⟨by omega, by omega, by omega, by omega⟩)))
      have ag9 : ∀ pc, pc ≤ gI σ da 17 → dq9 pc = dp pc := fun pc hp => (ag8 pc (by omega)).trans (ag9 pc hp)
      have de9 := de8
      have sσ25_6 := fσ25.2.1 6 (by decide)
      have pσ25 := fσ25.2.2.2.1 (by decide)
      try simp only [rII, rIJ, rIP, rJJ, rJI, rJP, rPP, rPI, rPJ, g1, g2, g3, g4, g5, g6, g7, g8, Nat.reduceEqDiff, Nat.reduceAdd, false_and, and_false, true_and, and_true, reduceIte, nZ0, nZ1, hdm, hmd, hdj, hjd, sσ25_6.1, sσ25_6.2, pσ25, cσ16_19.1, cσ16_19.2, cσ22_9.1, cσ22_9.2, cσ22_19.1, cσ22_19.2, cσ25_8.1, cσ25_8.2, cσ25_9.1, cσ25_9.2, cσ25_19.1, cσ25_19.2] at p9
      try simp only [forall_eq, rII, rIJ, rIP, rJJ, rJI, rJP, rPP, rPI, rPJ, g1, g2, g3, g4, g5, g6, g7, g8, Nat.reduceEqDiff, Nat.reduceAdd, false_and, and_false, true_and, and_true, reduceIte, nZ0, nZ1, hdm, hmd, hdj, hjd, sσ25_6.1, sσ25_6.2, pσ25, cσ16_19.1, cσ16_19.2, cσ22_9.1, cσ22_9.2, cσ22_19.1, cσ22_19.2, cσ25_8.1, cσ25_8.2, cσ25_9.1, cσ25_9.2, cσ25_19.1, cσ25_19.2]
      unfold w_X16_compared_86
      try simp only [forall_eq, rII, rIJ, rIP, rJJ, rJI, rJP, rPP, rPI, rPJ, g1, g2, g3, g4, g5, g6, g7, g8, Nat.reduceEqDiff, Nat.reduceAdd, false_and, and_false, true_and, and_true, reduceIte, nZ0, nZ1, hdm, hmd, hdj, hjd, sσ25_6.1, sσ25_6.2, pσ25, cσ16_19.1, cσ16_19.2, cσ22_9.1, cσ22_9.2, cσ22_19.1, cσ22_19.2, cσ25_8.1, cσ25_8.2, cσ25_9.1, cσ25_9.2, cσ25_19.1, cσ25_19.2]
      refine hQ _ _ ?_ ?_ ?_
      · exact rσ25
      · exact fσ25
      · exact ⟨⟨dq9, ag9, pg9, by omega⟩, ps9, by omega, by omega, by omega, okk⟩
    · rename_i hc24
      skip
      unfold w_X16_compared_27
      try simp only [forall_eq, rII, rIJ, rIP, rJJ, rJI, rJP, rPP, rPI, rPJ, g1, g2, g3, g4, g5, g6, g7, g8, Nat.reduceEqDiff, Nat.reduceAdd, false_and, and_false, true_and, and_true, reduceIte, nZ0, nZ1, hdm, hmd, hdj, hjd, sσ16_6.1, sσ16_6.2, pσ16, cσ16_19.1, cσ16_19.2]
      split
      · rename_i hc33
        skip
        unfold w_X16_compared_86
        try simp only [forall_eq, rII, rIJ, rIP, rJJ, rJI, rJP, rPP, rPI, rPJ, g1, g2, g3, g4, g5, g6, g7, g8, Nat.reduceEqDiff, Nat.reduceAdd, false_and, and_false, true_and, and_true, reduceIte, nZ0, nZ1, hdm, hmd, hdj, hjd, sσ16_6.1, sσ16_6.2, pσ16, cσ16_19.1, cσ16_19.2]
        refine hQ _ _ ?_ ?_ ?_
        · exact rσ16
        · exact fσ16
        · exact ⟨⟨dq9, ag9, pg9, by omega⟩, ps9, by omega, by omega, by omega, okk⟩
      · rename_i hc33
        skip
        unfold w_X16_compared_36
        try simp only [forall_eq, rII, rIJ, rIP, rJJ, rJI, rJP, rPP, rPI, rPJ, g1, g2, g3, g4, g5, g6, g7, g8, Nat.reduceEqDiff, Nat.reduceAdd, false_and, and_false, true_and, and_true, reduceIte, nZ0, nZ1, hdm, hmd, hdj, hjd, sσ16_6.1, sσ16_6.2, pσ16, cσ16_19.1, cσ16_19.2]
        rw [if_pos (show ((gI σ16 rm 9) ≠ 60) by omega)]
        unfold w_X16_compared_50
        try simp only [forall_eq, rII, rIJ, rIP, rJJ, rJI, rJP, rPP, rPI, rPJ, g1, g2, g3, g4, g5, g6, g7, g8, Nat.reduceEqDiff, Nat.reduceAdd, false_and, and_false, true_and, and_true, reduceIte, nZ0, nZ1, hdm, hmd, hdj, hjd, sσ16_6.1, sσ16_6.2, pσ16, cσ16_19.1, cσ16_19.2]
        rw [if_pos (show ((gI σ16 rm 9) ≠ 62) by omega)]
        unfold w_X16_compared_64
        try simp only [forall_eq, rII, rIJ, rIP, rJJ, rJI, rJP, rPP, rPI, rPJ, g1, g2, g3, g4, g5, g6, g7, g8, Nat.reduceEqDiff, Nat.reduceAdd, false_and, and_false, true_and, and_true, reduceIte, nZ0, nZ1, hdm, hmd, hdj, hjd, sσ16_6.1, sσ16_6.2, pσ16, cσ16_19.1, cσ16_19.2]
        unfold w_X16_compared_66
        try simp only [forall_eq, rII, rIJ, rIP, rJJ, rJI, rJP, rPP, rPI, rPJ, g1, g2, g3, g4, g5, g6, g7, g8, Nat.reduceEqDiff, Nat.reduceAdd, false_and, and_false, true_and, and_true, reduceIte, nZ0, nZ1, hdm, hmd, hdj, hjd, sσ16_6.1, sσ16_6.2, pσ16, cσ16_19.1, cσ16_19.2]
        refine s2_X16_take g rσ16 (by exact ps9) (by omega) (by omega) (fun σ27 _ rσ27 fc p10 => ?_)
        have fσ27 : FdO ra jx rm da o [15, 16] [4, 5, 7, 8, 9, 10, 11, 12, 13, 19] [15, 16] σ σ27 := FdO.tr fσ16 (FdO.mor (Fr.d fc hda (by decide)) (by decide) (by decide) (by decide))
        have cσ27_9 := fc.2.1 9 (by decide)
        have cσ27_19 := fc.2.1 19 (by decide)
        have ps9 := p10.1; have cq9 := p10.2
        have pg9 := PgI.fr pg9 hda fc (by decide)
        have n17 := congrFun (Fr.ob fc hda (by decide)) 17
        (try simp only [rII, rIJ, rIP, rJJ, rJI, rJP, rPP, rPI, rPJ, g1, g2, g3, g4, g5, g6, g7, g8, Nat.reduceEqDiff, Nat.reduceAdd, false_and, and_false, true_and, and_true, reduceIte, nZ0, nZ1, hdm, hmd, hdj, hjd, sσ16_6.1, sσ16_6.2, pσ16, cσ16_19.1, cσ16_19.2] at n17)
        have okk : ∀ k, k ≠ 17 → gI σ27 da k = gI σ da k := fun k hk => (congrFun (Fr.ob fc hda (by decide)) k).trans (by (try simp only [rII, rIJ, rIP, rJJ, rJI, rJP, rPP, rPI, rPJ, g1, g2, g3, g4, g5, g6, g7, g8, Nat.reduceEqDiff, Nat.reduceAdd, false_and, and_false, true_and, and_true, reduceIte, nZ0, nZ1, hdm, hmd, hdj, hjd, sσ16_6.1, sσ16_6.2, pσ16, cσ16_19.1, cσ16_19.2]) <;> exact okk k hk)
        have n19 := (fc.2.1 19 (by decide)).1
        have le6 := PsI.le ps9
        have s6n := (fσ27.2.1 6 (by decide)).1
        have ded : dq9 (gI σ27 da 17) = dp (gI σ da 17) + 1 := by rw [n17]; exact de9
        have de9 := ded
        have sσ27_6 := fσ27.2.1 6 (by decide)
        have pσ27 := fσ27.2.2.2.1 (by decide)
        try simp only [rII, rIJ, rIP, rJJ, rJI, rJP, rPP, rPI, rPJ, g1, g2, g3, g4, g5, g6, g7, g8, Nat.reduceEqDiff, Nat.reduceAdd, false_and, and_false, true_and, and_true, reduceIte, nZ0, nZ1, hdm, hmd, hdj, hjd, sσ27_6.1, sσ27_6.2, pσ27, cσ16_19.1, cσ16_19.2, cσ27_9.1, cσ27_9.2, cσ27_19.1, cσ27_19.2] at p10
        try simp only [forall_eq, rII, rIJ, rIP, rJJ, rJI, rJP, rPP, rPI, rPJ, g1, g2, g3, g4, g5, g6, g7, g8, Nat.reduceEqDiff, Nat.reduceAdd, false_and, and_false, true_and, and_true, reduceIte, nZ0, nZ1, hdm, hmd, hdj, hjd, sσ27_6.1, sσ27_6.2, pσ27, cσ16_19.1, cσ16_19.2, cσ27_9.1, cσ27_9.2, cσ27_19.1, cσ27_19.2]
        refine ih4 (o := o) (dp := dq9) (ex := ex) g rσ27 (by exact ps9) (by (try simp only [rII, rIJ, rIP, rJJ, rJI, rJP, rPP, rPI, rPJ, g1, g2, g3, g4, g5, g6, g7, g8, Nat.reduceEqDiff, Nat.reduceAdd, false_and, and_false, true_and, and_true, reduceIte, nZ0, nZ1, hdm, hmd, hdj, hjd, sσ27_6.1, sσ27_6.2, pσ27, cσ16_19.1, cσ16_19.2, cσ27_9.1, cσ27_9.2, cσ27_19.1, cσ27_19.2]) <;> first | exact hd | (rw [fσ27.2.2.2.1 (by decide)]; exact hd)) hda h1 (by (try simp only [rII, rIJ, rIP, rJJ, rJI, rJP, rPP, rPI, rPJ, g1, g2, g3, g4, g5, g6, g7, g8, Nat.reduceEqDiff, Nat.reduceAdd, false_and, and_false, true_and, and_true, reduceIte, nZ0, nZ1, hdm, hmd, hdj, hjd, sσ27_6.1, sσ27_6.2, pσ27, cσ16_19.1, cσ16_19.2, cσ27_9.1, cσ27_9.2, cσ27_19.1, cσ27_19.2]) <;> omega) (by exact pg9) (by (try simp only [rII, rIJ, rIP, rJJ, rJI, rJP, rPP, rPI, rPJ, g1, g2, g3, g4, g5, g6, g7, g8, Nat.reduceEqDiff, Nat.reduceAdd, false_and, and_false, true_and, and_true, reduceIte, nZ0, nZ1, hdm, hmd, hdj, hjd, sσ27_6.1, sσ27_6.2, pσ27, cσ16_19.1, cσ16_19.2, cσ27_9.1, cσ27_9.2, cσ27_19.1, cσ27_19.2]) <;> omega) (by (try simp only [rII, rIJ, rIP, rJJ, rJI, rJP, rPP, rPI, rPJ, g1, g2, g3, g4, g5, g6, g7, g8, Nat.reduceEqDiff, Nat.reduceAdd, false_and, and_false, true_and, and_true, reduceIte, nZ0, nZ1, hdm, hmd, hdj, hjd, sσ27_6.1, sσ27_6.2, pσ27, cσ16_19.1, cσ16_19.2, cσ27_9.1, cσ27_9.2, cσ27_19.1, cσ27_19.2]) <;> exact fun pc hp => hex pc (by omega)) (by (try simp only [rII, rIJ, rIP, rJJ, rJI, rJP, rPP, rPI, rPJ, g1, g2, g3, g4, g5, g6, g7, g8, Nat.reduceEqDiff, Nat.reduceAdd, false_and, and_false, true_and, and_true, reduceIte, nZ0, nZ1, hdm, hmd, hdj, hjd, sσ27_6.1, sσ27_6.2, pσ27, cσ16_19.1, cσ16_19.2, cσ27_9.1, cσ27_9.2, cσ27_19.1, cσ27_19.2]) <;> omega) (fun σ28 _ rσ28 fc p11 => ?_) (fun σx E rx fx px => hX _ _ rx (FdO.tr fσ27 (FdO.mor (fx) (by decide) (by decide) (by decide))) px)
        have fσ28 : FdO ra jx rm da o [15, 16] [4, 5, 7, 8, 9, 10, 11, 12, 13, 19] [15, 16] σ σ28 := FdO.tr fσ27 (FdO.mor (fc) (by decide) (by decide) (by decide))
        have ag7 := ag9; have de7 := de9
        obtain ⟨⟨dq8, ag8, pg9, de8⟩, ps9, cq9, n19, nl9, ok9⟩ := p11
        have okk : ∀ k, k ≠ 17 → gI σ28 da k = gI σ da k := fun k hk => (ok9 k hk).trans (okk k hk)
        (try simp only [rII, rIJ, rIP, rJJ, rJI, rJP, rPP, rPI, rPJ, g1, g2, g3, g4, g5, g6, g7, g8, Nat.reduceEqDiff, Nat.reduceAdd, false_and, and_false, true_and, and_true, reduceIte, nZ0, nZ1, hdm, hmd, hdj, hjd, sσ27_6.1, sσ27_6.2, pσ27, cσ16_19.1, cσ16_19.2, cσ27_9.1, cσ27_9.2, cσ27_19.1, cσ27_19.2] at cq9 n19 nl9 ag8 de8)
        have ag9 : ∀ pc, pc ≤ gI σ da 17 → dq8 pc = dp pc := fun pc hp => by rw [ag8 pc (by omega)]; exact ag7 pc hp
        have de9 : dq8 (gI σ28 da 17) = dp (gI σ da 17) + 2 := by omega
        have le6 := PsI.le ps9
        have s6n := (fσ28.2.1 6 (by decide)).1
        have sσ28_6 := fσ28.2.1 6 (by decide)
        have pσ28 := fσ28.2.2.2.1 (by decide)
        try simp only [rII, rIJ, rIP, rJJ, rJI, rJP, rPP, rPI, rPJ, g1, g2, g3, g4, g5, g6, g7, g8, Nat.reduceEqDiff, Nat.reduceAdd, false_and, and_false, true_and, and_true, reduceIte, nZ0, nZ1, hdm, hmd, hdj, hjd, sσ28_6.1, sσ28_6.2, pσ28, cσ16_19.1, cσ16_19.2, cσ27_9.1, cσ27_9.2, cσ27_19.1, cσ27_19.2] at p11
        try simp only [forall_eq, rII, rIJ, rIP, rJJ, rJI, rJP, rPP, rPI, rPJ, g1, g2, g3, g4, g5, g6, g7, g8, Nat.reduceEqDiff, Nat.reduceAdd, false_and, and_false, true_and, and_true, reduceIte, nZ0, nZ1, hdm, hmd, hdj, hjd, sσ28_6.1, sσ28_6.2, pσ28, cσ16_19.1, cσ16_19.2, cσ27_9.1, cσ27_9.2, cσ27_19.1, cσ27_19.2]
        refine ⟨da, by exact hd, hda, ?_⟩
        refine s2_X15_step (o := o) g rσ28 hda (by omega) (by omega) (fun σ30 r31 rσ30 fc p12 => ?_)
        have fσ30 : FdO ra jx rm da o [15, 16] [4, 5, 7, 8, 9, 10, 11, 12, 13, 19] [15, 16] σ σ30 := FdO.tr fσ28 (FdO.mor (fc) (by decide) (by decide) (by decide))
        have cσ30_8 := fc.2.1 8 (by decide)
        have cσ30_9 := fc.2.1 9 (by decide)
        have cσ30_19 := fc.2.1 19 (by decide)
        have st0 := p12.1; have st1 := p12.2.1; have st2 := p12.2.2.1; have st3 := p12.2.2.2.1
        have okk : ∀ k, k ≠ 17 → gI σ30 da k = gI σ da k := fun k hk => by rw [p12.2.2.2.2 k hk]; exact okk k hk
        have pf9 := PsI.frj ps9 (FdO.fj fc) (by decide)
        have ps9 := pf9.1; have cq9 := pf9.2
        have n19 := (fc.2.1 19 (by decide)).1
        have le6 := PsI.le ps9
        have s6n := (fσ30.2.1 6 (by decide)).1
        obtain ⟨dq9, ag8, pg9, de8⟩ := PgI.putE (d' := dp (gI σ da 17) + 1) pg9 (by omega) st1 st2 st3 de9 (by omega) (by omega) (Or.inr (Or.inr (Or.inl ⟨by omega, by omega, by omega, by omega⟩)))
        have ag9 : ∀ pc, pc ≤ gI σ da 17 → dq9 pc = dp pc := fun pc hp => (ag8 pc (by omega)).trans (ag9 pc hp)
        have de9 := de8
        have sσ30_6 := fσ30.2.1 6 (by decide)
        have pσ30 := fσ30.2.2.2.1 (by decide)
        try simp only [rII, rIJ, rIP, rJJ, rJI, rJP, rPP, rPI, rPJ, g1, g2, g3, g4, g5, g6, g7, g8, Nat.reduceEqDiff, Nat.reduceAdd, false_and, and_false, true_and, and_true, reduceIte, nZ0, nZ1, hdm, hmd, hdj, hjd, sσ30_6.1, sσ30_6.2, pσ30, cσ16_19.1, cσ16_19.2, cσ27_9.1, cσ27_9.2, cσ27_19.1, cσ27_19.2, cσ30_8.1, cσ30_8.2, cσ30_9.1, cσ30_9.2, cσ30_19.1, cσ30_19.2] at p12
        try simp only [forall_eq, rII, rIJ, rIP, rJJ, rJI, rJP, rPP, rPI, rPJ, g1, g2, g3, g4, g5, g6, g7, g8, Nat.reduceEqDiff, Nat.reduceAdd, false_and, and_false, true_and, and_true, reduceIte, nZ0, nZ1, hdm, hmd, hdj, hjd, sσ30_6.1, sσ30_6.2, pσ30, cσ16_19.1, cσ16_19.2, cσ27_9.1, cσ27_9.2, cσ27_19.1, cσ27_19.2, cσ30_8.1, cσ30_8.2, cσ30_9.1, cσ30_9.2, cσ30_19.1, cσ30_19.2]
        unfold w_X16_compared_86
        try simp only [forall_eq, rII, rIJ, rIP, rJJ, rJI, rJP, rPP, rPI, rPJ, g1, g2, g3, g4, g5, g6, g7, g8, Nat.reduceEqDiff, Nat.reduceAdd, false_and, and_false, true_and, and_true, reduceIte, nZ0, nZ1, hdm, hmd, hdj, hjd, sσ30_6.1, sσ30_6.2, pσ30, cσ16_19.1, cσ16_19.2, cσ27_9.1, cσ27_9.2, cσ27_19.1, cσ27_19.2, cσ30_8.1, cσ30_8.2, cσ30_9.1, cσ30_9.2, cσ30_19.1, cσ30_19.2]
        refine hQ _ _ ?_ ?_ ?_
        · exact rσ30
        · exact fσ30
        · exact ⟨⟨dq9, ag9, pg9, by omega⟩, ps9, by omega, by omega, by omega, okk⟩
set_option maxHeartbeats 1000000 in
theorem s_X16_sum {ra : Nat → Nat} {jx : Nat → Nat → Nat} {rm : Nat} {n : Nat} {da : Nat} {o : Int} {dp : Int → Int} {ex : Int → Prop} (g : Geo ra jx rm) {σ : Sg} {v1 : Int} (rσ : Rg ra jx rm σ) (hps : PsI rm σ) (hd : gP σ rm 18 = some da) (hda : da = ra 15 ∨ da = ra 16) (h1 : 0 ≤ v1 ∧ v1 < 16) (hN : 0 ≤ gI σ da 17 ∧ gI σ da 17 ≤ 4 * cn rm σ) (hpg : PgI jx da σ dp ex) (hdp : 0 ≤ dp (gI σ da 17) ∧ dp (gI σ da 17) ≤ 3 * gI σ rm 19 + 1) (hex : ∀ pc, gI σ da 17 ≤ pc → ¬ ex pc) (hfu : 7 * (11 - gI σ rm 19) - 4 ≤ (n : Int) + 1) (ih0 : ∀ {da : Nat} {o : Int} {dp : Int → Int} {ex : Int → Prop} (_ : Geo ra jx rm) {σ : Sg} {v1 : Int} (_ : Rg ra jx rm σ) (_ : PsI rm σ) (_ : gP σ rm 18 = some da) (_ : da = ra 15 ∨ da = ra 16) (_ : 0 ≤ v1 ∧ v1 < 16) (_ : 0 ≤ gI σ da 17 ∧ gI σ da 17 ≤ 4 * cn rm σ) (_ : PgI jx da σ dp ex) (_ : 0 ≤ dp (gI σ da 17) ∧ dp (gI σ da 17) ≤ 3 * gI σ rm 19 + 0) (_ : ∀ pc, gI σ da 17 ≤ pc → ¬ ex pc) (_ : 7 * (11 - gI σ rm 19) - 0 ≤ (n : Int)) {Q : Sg → Unit → Prop} {X : Sg → String → Prop} (_ : ∀ (σ' : Sg) (r : Unit), Rg ra jx rm σ' → FdO ra jx rm da o [15, 16] [4, 5, 7, 8, 9, 10, 11, 12, 13, 19] [15, 16] σ σ' → ((∃ dq : Int → Int, (∀ pc, pc ≤ gI σ da 17 → dq pc = dp pc) ∧ PgI jx da σ' dq ex ∧ dq (gI σ' da 17) = dp (gI σ da 17) + 1) ∧ PsI rm σ' ∧ gI σ' da 17 - 4 * cn rm σ' ≤ gI σ da 17 - 4 * cn rm σ ∧ gI σ' rm 19 = gI σ rm 19 ∧ gI σ da 17 < gI σ' da 17 ∧ (∀ k, k ≠ 17 → gI σ' da k = gI σ da k)) → Q σ' r) (_ : ∀ (σ' : Sg) (E : String), Rg ra jx rm σ' → FdO ra jx rm da o [15, 16] [4, 5, 7, 8, 9, 10, 11, 12, 13, 19] [15, 16] σ σ' → (E = "StreamHouseModel$Fault") → X σ' E), wrec ra jx rm n 0 v1 σ Q X) (ih1 : ∀ {da : Nat} {o : Int} {dp : Int → Int} {ex : Int → Prop} (_ : Geo ra jx rm) {σ : Sg} {v1 : Int} (_ : Rg ra jx rm σ) (_ : PsI rm σ) (_ : gP σ rm 18 = some da) (_ : da = ra 15 ∨ da = ra 16) (_ : 0 ≤ v1 ∧ v1 < 16) (_ : 0 ≤ gI σ da 17 ∧ gI σ da 17 ≤ 4 * cn rm σ) (_ : PgI jx da σ dp ex) (_ : 0 ≤ dp (gI σ da 17) ∧ dp (gI σ da 17) ≤ 3 * gI σ rm 19 + 0) (_ : ∀ pc, gI σ da 17 ≤ pc → ¬ ex pc) (_ : 7 * (11 - gI σ rm 19) - 1 ≤ (n : Int)) {Q : Sg → Unit → Prop} {X : Sg → String → Prop} (_ : ∀ (σ' : Sg) (r : Unit), Rg ra jx rm σ' → FdO ra jx rm da o [15, 16] [4, 5, 7, 8, 9, 10, 11, 12, 13, 19] [15, 16] σ σ' → ((∃ dq : Int → Int, (∀ pc, pc ≤ gI σ da 17 → dq pc = dp pc) ∧ PgI jx da σ' dq ex ∧ dq (gI σ' da 17) = dp (gI σ da 17) + 1) ∧ PsI rm σ' ∧ gI σ' da 17 - 4 * cn rm σ' ≤ gI σ da 17 - 4 * cn rm σ ∧ gI σ' rm 19 = gI σ rm 19 ∧ gI σ da 17 < gI σ' da 17 ∧ (∀ k, k ≠ 17 → gI σ' da k = gI σ da k)) → Q σ' r) (_ : ∀ (σ' : Sg) (E : String), Rg ra jx rm σ' → FdO ra jx rm da o [15, 16] [4, 5, 7, 8, 9, 10, 11, 12, 13, 19] [15, 16] σ σ' → (E = "StreamHouseModel$Fault") → X σ' E), wrec ra jx rm n 1 v1 σ Q X) (ih2 : ∀ {da : Nat} {o : Int} {dp : Int → Int} {ex : Int → Prop} (_ : Geo ra jx rm) {σ : Sg} {v1 : Int} (_ : Rg ra jx rm σ) (_ : PsI rm σ) (_ : gP σ rm 18 = some da) (_ : da = ra 15 ∨ da = ra 16) (_ : 0 ≤ v1 ∧ v1 < 16) (_ : 0 ≤ gI σ da 17 ∧ gI σ da 17 ≤ 4 * cn rm σ) (_ : PgI jx da σ dp ex) (_ : 0 ≤ dp (gI σ da 17) ∧ dp (gI σ da 17) ≤ 3 * gI σ rm 19 + 0) (_ : ∀ pc, gI σ da 17 ≤ pc → ¬ ex pc) (_ : 7 * (11 - gI σ rm 19) - 2 ≤ (n : Int)) {Q : Sg → Unit → Prop} {X : Sg → String → Prop} (_ : ∀ (σ' : Sg) (r : Unit), Rg ra jx rm σ' → FdO ra jx rm da o [15, 16] [4, 5, 7, 8, 9, 10, 11, 12, 13, 19] [15, 16] σ σ' → ((∃ dq : Int → Int, (∀ pc, pc ≤ gI σ da 17 → dq pc = dp pc) ∧ PgI jx da σ' dq ex ∧ dq (gI σ' da 17) = dp (gI σ da 17) + 1) ∧ PsI rm σ' ∧ gI σ' da 17 - 4 * cn rm σ' ≤ gI σ da 17 - 4 * cn rm σ ∧ gI σ' rm 19 = gI σ rm 19 ∧ gI σ da 17 < gI σ' da 17 ∧ (∀ k, k ≠ 17 → gI σ' da k = gI σ da k)) → Q σ' r) (_ : ∀ (σ' : Sg) (E : String), Rg ra jx rm σ' → FdO ra jx rm da o [15, 16] [4, 5, 7, 8, 9, 10, 11, 12, 13, 19] [15, 16] σ σ' → (E = "StreamHouseModel$Fault") → X σ' E), wrec ra jx rm n 2 v1 σ Q X) (ih3 : ∀ {da : Nat} {o : Int} {dp : Int → Int} {ex : Int → Prop} (_ : Geo ra jx rm) {σ : Sg} {v1 : Int} (_ : Rg ra jx rm σ) (_ : PsI rm σ) (_ : gP σ rm 18 = some da) (_ : da = ra 15 ∨ da = ra 16) (_ : 0 ≤ v1 ∧ v1 < 16) (_ : 0 ≤ gI σ da 17 ∧ gI σ da 17 ≤ 4 * cn rm σ) (_ : PgI jx da σ dp ex) (_ : 0 ≤ dp (gI σ da 17) ∧ dp (gI σ da 17) ≤ 3 * gI σ rm 19 + 0) (_ : ∀ pc, gI σ da 17 ≤ pc → ¬ ex pc) (_ : 7 * (11 - gI σ rm 19) - 3 ≤ (n : Int)) {Q : Sg → Unit → Prop} {X : Sg → String → Prop} (_ : ∀ (σ' : Sg) (r : Unit), Rg ra jx rm σ' → FdO ra jx rm da o [15, 16] [4, 5, 7, 8, 9, 10, 11, 12, 13, 19] [15, 16] σ σ' → ((∃ dq : Int → Int, (∀ pc, pc ≤ gI σ da 17 → dq pc = dp pc) ∧ PgI jx da σ' dq ex ∧ dq (gI σ' da 17) = dp (gI σ da 17) + 1) ∧ PsI rm σ' ∧ gI σ' da 17 - 4 * cn rm σ' ≤ gI σ da 17 - 4 * cn rm σ ∧ gI σ' rm 19 = gI σ rm 19 ∧ gI σ da 17 < gI σ' da 17 ∧ (∀ k, k ≠ 17 → gI σ' da k = gI σ da k)) → Q σ' r) (_ : ∀ (σ' : Sg) (E : String), Rg ra jx rm σ' → FdO ra jx rm da o [15, 16] [4, 5, 7, 8, 9, 10, 11, 12, 13, 19] [15, 16] σ σ' → (E = "StreamHouseModel$Fault") → X σ' E), wrec ra jx rm n 3 v1 σ Q X) (ih4 : ∀ {da : Nat} {o : Int} {dp : Int → Int} {ex : Int → Prop} (_ : Geo ra jx rm) {σ : Sg} {v1 : Int} (_ : Rg ra jx rm σ) (_ : PsI rm σ) (_ : gP σ rm 18 = some da) (_ : da = ra 15 ∨ da = ra 16) (_ : 0 ≤ v1 ∧ v1 < 16) (_ : 0 ≤ gI σ da 17 ∧ gI σ da 17 ≤ 4 * cn rm σ) (_ : PgI jx da σ dp ex) (_ : 0 ≤ dp (gI σ da 17) ∧ dp (gI σ da 17) ≤ 3 * gI σ rm 19 + 1) (_ : ∀ pc, gI σ da 17 ≤ pc → ¬ ex pc) (_ : 7 * (11 - gI σ rm 19) - 4 ≤ (n : Int)) {Q : Sg → Unit → Prop} {X : Sg → String → Prop} (_ : ∀ (σ' : Sg) (r : Unit), Rg ra jx rm σ' → FdO ra jx rm da o [15, 16] [4, 5, 7, 8, 9, 10, 11, 12, 13, 19] [15, 16] σ σ' → ((∃ dq : Int → Int, (∀ pc, pc ≤ gI σ da 17 → dq pc = dp pc) ∧ PgI jx da σ' dq ex ∧ dq (gI σ' da 17) = dp (gI σ da 17) + 1) ∧ PsI rm σ' ∧ gI σ' da 17 - 4 * cn rm σ' ≤ gI σ da 17 - 4 * cn rm σ ∧ gI σ' rm 19 = gI σ rm 19 ∧ gI σ da 17 < gI σ' da 17 ∧ (∀ k, k ≠ 17 → gI σ' da k = gI σ da k)) → Q σ' r) (_ : ∀ (σ' : Sg) (E : String), Rg ra jx rm σ' → FdO ra jx rm da o [15, 16] [4, 5, 7, 8, 9, 10, 11, 12, 13, 19] [15, 16] σ σ' → (E = "StreamHouseModel$Fault") → X σ' E), wrec ra jx rm n 4 v1 σ Q X) (ih5 : ∀ {da : Nat} {o : Int} {dp : Int → Int} {ex : Int → Prop} (_ : Geo ra jx rm) {σ : Sg} {v1 : Int} (_ : Rg ra jx rm σ) (_ : PsI rm σ) (_ : gP σ rm 18 = some da) (_ : da = ra 15 ∨ da = ra 16) (_ : 0 ≤ v1 ∧ v1 < 16) (_ : 0 ≤ gI σ da 17 ∧ gI σ da 17 ≤ 4 * cn rm σ) (_ : PgI jx da σ dp ex) (_ : 0 ≤ dp (gI σ da 17) ∧ dp (gI σ da 17) ≤ 3 * gI σ rm 19 + 2) (_ : ∀ pc, gI σ da 17 ≤ pc → ¬ ex pc) (_ : 7 * (11 - gI σ rm 19) - 5 ≤ (n : Int)) {Q : Sg → Unit → Prop} {X : Sg → String → Prop} (_ : ∀ (σ' : Sg) (r : Unit), Rg ra jx rm σ' → FdO ra jx rm da o [15, 16] [4, 5, 7, 8, 9, 10, 11, 12, 13, 19] [15, 16] σ σ' → ((∃ dq : Int → Int, (∀ pc, pc ≤ gI σ da 17 → dq pc = dp pc) ∧ PgI jx da σ' dq ex ∧ dq (gI σ' da 17) = dp (gI σ da 17) + 1) ∧ PsI rm σ' ∧ gI σ' da 17 - 4 * cn rm σ' ≤ gI σ da 17 - 4 * cn rm σ ∧ gI σ' rm 19 = gI σ rm 19 ∧ gI σ da 17 < gI σ' da 17 ∧ (∀ k, k ≠ 17 → gI σ' da k = gI σ da k)) → Q σ' r) (_ : ∀ (σ' : Sg) (E : String), Rg ra jx rm σ' → FdO ra jx rm da o [15, 16] [4, 5, 7, 8, 9, 10, 11, 12, 13, 19] [15, 16] σ σ' → (E = "StreamHouseModel$Fault") → X σ' E), wrec ra jx rm n 5 v1 σ Q X) (ih6 : ∀ {da : Nat} {o : Int} {dp : Int → Int} {ex : Int → Prop} (_ : Geo ra jx rm) {σ : Sg} {v1 : Int} (_ : Rg ra jx rm σ) (_ : PsI rm σ) (_ : gP σ rm 18 = some da) (_ : da = ra 15 ∨ da = ra 16) (_ : 0 ≤ v1 ∧ v1 < 16) (_ : 0 ≤ gI σ da 17 ∧ gI σ da 17 ≤ 4 * cn rm σ) (_ : PgI jx da σ dp ex) (_ : 0 ≤ dp (gI σ da 17) ∧ dp (gI σ da 17) ≤ 3 * gI σ rm 19 + 3) (_ : ∀ pc, gI σ da 17 ≤ pc → ¬ ex pc) (_ : 7 * (11 - gI σ rm 19) - 6 ≤ (n : Int)) {Q : Sg → Unit → Prop} {X : Sg → String → Prop} (_ : ∀ (σ' : Sg) (r : Unit), Rg ra jx rm σ' → FdO ra jx rm da o [15, 16] [4, 5, 7, 8, 9, 10, 11, 12, 13, 19] [15, 16] σ σ' → ((∃ dq : Int → Int, (∀ pc, pc ≤ gI σ da 17 → dq pc = dp pc) ∧ PgI jx da σ' dq ex ∧ dq (gI σ' da 17) = dp (gI σ da 17) + 1) ∧ PsI rm σ' ∧ gI σ' da 17 - 4 * cn rm σ' ≤ gI σ da 17 - 4 * cn rm σ ∧ gI σ' rm 19 = gI σ rm 19 ∧ gI σ da 17 < gI σ' da 17 ∧ (∀ k, k ≠ 17 → gI σ' da k = gI σ da k)) → Q σ' r) (_ : ∀ (σ' : Sg) (E : String), Rg ra jx rm σ' → FdO ra jx rm da o [15, 16] [4, 5, 7, 8, 9, 10, 11, 12, 13, 19] [15, 16] σ σ' → (E = "StreamHouseModel$Fault") → X σ' E), wrec ra jx rm n 6 v1 σ Q X) {Q : Sg → Unit → Prop} {X : Sg → String → Prop} (hQ : ∀ (σ' : Sg) (r : Unit), Rg ra jx rm σ' → FdO ra jx rm da o [15, 16] [4, 5, 7, 8, 9, 10, 11, 12, 13, 19] [15, 16] σ σ' → ((∃ dq : Int → Int, (∀ pc, pc ≤ gI σ da 17 → dq pc = dp pc) ∧ PgI jx da σ' dq ex ∧ dq (gI σ' da 17) = dp (gI σ da 17) + 1) ∧ PsI rm σ' ∧ gI σ' da 17 - 4 * cn rm σ' ≤ gI σ da 17 - 4 * cn rm σ ∧ gI σ' rm 19 = gI σ rm 19 ∧ gI σ da 17 < gI σ' da 17 ∧ (∀ k, k ≠ 17 → gI σ' da k = gI σ da k)) → Q σ' r) (hX : ∀ (σ' : Sg) (E : String), Rg ra jx rm σ' → FdO ra jx rm da o [15, 16] [4, 5, 7, 8, 9, 10, 11, 12, 13, 19] [15, 16] σ σ' → (E = "StreamHouseModel$Fault") → X σ' E) : w_X16_sum_0 ra jx rm (wrec ra jx rm n) Q X σ v1 := by
  obtain ⟨g1, g2, g3, g4, g5, g6, g7, g8⟩ := id g
  have fσ : FdO ra jx rm da o [15, 16] [4, 5, 7, 8, 9, 10, 11, 12, 13, 19] [15, 16] σ σ := FdO.rf
  have hdm : ¬ da = rm := by rcases hda with q | q <;> rw [q] <;> exact g2 _
  have hmd : ¬ rm = da := fun q => hdm q.symm
  have hdj : ∀ a k, ¬ da = jx a k := fun a k => by rcases hda with q | q <;> rw [q] <;> exact g5 a k _
  have hjd : ∀ a k, ¬ jx a k = da := fun a k => by rcases hda with q | q <;> rw [q] <;> exact g4 a k _
  have q06 := rσ.2.1 6; simp only [rgS] at q06
  have q19 := rσ.2.1 19; simp only [rgS] at q19
  have ps9 := hps; have pg9 := hpg
  have okk : ∀ k, k ≠ 17 → gI σ da k = gI σ da k := fun _ _ => rfl
  have le6 := PsI.le hps
  unfold w_X16_sum_0
  try simp only [forall_eq, rII, rIJ, rIP, rJJ, rJI, rJP, rPP, rPI, rPJ, g1, g2, g3, g4, g5, g6, g7, g8, Nat.reduceEqDiff, Nat.reduceAdd, false_and, and_false, true_and, and_true, reduceIte, nZ0, nZ1, hdm, hmd, hdj, hjd]
  refine ih5 (o := o) (dp := dp) (ex := ex) g rσ (by exact ps9) (by (try simp only [rII, rIJ, rIP, rJJ, rJI, rJP, rPP, rPI, rPJ, g1, g2, g3, g4, g5, g6, g7, g8, Nat.reduceEqDiff, Nat.reduceAdd, false_and, and_false, true_and, and_true, reduceIte, nZ0, nZ1, hdm, hmd, hdj, hjd]) <;> first | exact hd | (rw [fσ.2.2.2.1 (by decide)]; exact hd)) hda h1 (by (try simp only [rII, rIJ, rIP, rJJ, rJI, rJP, rPP, rPI, rPJ, g1, g2, g3, g4, g5, g6, g7, g8, Nat.reduceEqDiff, Nat.reduceAdd, false_and, and_false, true_and, and_true, reduceIte, nZ0, nZ1, hdm, hmd, hdj, hjd]) <;> omega) (by exact pg9) (by (try simp only [rII, rIJ, rIP, rJJ, rJI, rJP, rPP, rPI, rPJ, g1, g2, g3, g4, g5, g6, g7, g8, Nat.reduceEqDiff, Nat.reduceAdd, false_and, and_false, true_and, and_true, reduceIte, nZ0, nZ1, hdm, hmd, hdj, hjd]) <;> omega) (by (try simp only [rII, rIJ, rIP, rJJ, rJI, rJP, rPP, rPI, rPJ, g1, g2, g3, g4, g5, g6, g7, g8, Nat.reduceEqDiff, Nat.reduceAdd, false_and, and_false, true_and, and_true, reduceIte, nZ0, nZ1, hdm, hmd, hdj, hjd]) <;> exact fun pc hp => hex pc (by omega)) (by (try simp only [rII, rIJ, rIP, rJJ, rJI, rJP, rPP, rPI, rPJ, g1, g2, g3, g4, g5, g6, g7, g8, Nat.reduceEqDiff, Nat.reduceAdd, false_and, and_false, true_and, and_true, reduceIte, nZ0, nZ1, hdm, hmd, hdj, hjd]) <;> omega) (fun σ17 _ rσ17 fc p1 => ?_) (fun σx E rx fx px => hX _ _ rx (FdO.tr fσ (FdO.mor (fx) (by decide) (by decide) (by decide))) px)
  have fσ17 : FdO ra jx rm da o [15, 16] [4, 5, 7, 8, 9, 10, 11, 12, 13, 19] [15, 16] σ σ17 := FdO.tr fσ (FdO.mor (fc) (by decide) (by decide) (by decide))
  obtain ⟨⟨dq9, ag9, pg9, de9⟩, ps9, cq9, n19, nl9, ok9⟩ := p1
  have okk : ∀ k, k ≠ 17 → gI σ17 da k = gI σ da k := fun k hk => (ok9 k hk).trans (by (try simp only [rII, rIJ, rIP, rJJ, rJI, rJP, rPP, rPI, rPJ, g1, g2, g3, g4, g5, g6, g7, g8, Nat.reduceEqDiff, Nat.reduceAdd, false_and, and_false, true_and, and_true, reduceIte, nZ0, nZ1, hdm, hmd, hdj, hjd]) <;> exact okk k hk)
  (try simp only [rII, rIJ, rIP, rJJ, rJI, rJP, rPP, rPI, rPJ, g1, g2, g3, g4, g5, g6, g7, g8, Nat.reduceEqDiff, Nat.reduceAdd, false_and, and_false, true_and, and_true, reduceIte, nZ0, nZ1, hdm, hmd, hdj, hjd] at cq9 n19 nl9 ag9 de9)
  have eo9 : gI σ da 17 = gI σ da 17 := by omega
  (try rw [eo9] at de9)
  have ag9 : ∀ pc, pc ≤ gI σ da 17 → dq9 pc = dp pc := fun pc hp => ag9 pc (by omega)
  have le6 := PsI.le ps9
  have s6n := (fσ17.2.1 6 (by decide)).1
  have sσ17_6 := fσ17.2.1 6 (by decide)
  have pσ17 := fσ17.2.2.2.1 (by decide)
  try simp only [rII, rIJ, rIP, rJJ, rJI, rJP, rPP, rPI, rPJ, g1, g2, g3, g4, g5, g6, g7, g8, Nat.reduceEqDiff, Nat.reduceAdd, false_and, and_false, true_and, and_true, reduceIte, nZ0, nZ1, hdm, hmd, hdj, hjd, sσ17_6.1, sσ17_6.2, pσ17] at p1
  try simp only [forall_eq, rII, rIJ, rIP, rJJ, rJI, rJP, rPP, rPI, rPJ, g1, g2, g3, g4, g5, g6, g7, g8, Nat.reduceEqDiff, Nat.reduceAdd, false_and, and_false, true_and, and_true, reduceIte, nZ0, nZ1, hdm, hmd, hdj, hjd, sσ17_6.1, sσ17_6.2, pσ17]
  refine s2_X16_see g rσ17 (by exact ps9) (fun σ18 _ rσ18 fc p2 => ?_) (fun σx E rx fx px => hX _ _ rx (FdO.tr fσ17 (FdO.mor (Fr.d fx hda (by decide)) (by decide) (by decide) (by decide))) px)
  have fσ18 : FdO ra jx rm da o [15, 16] [4, 5, 7, 8, 9, 10, 11, 12, 13, 19] [15, 16] σ σ18 := FdO.tr fσ17 (FdO.mor (Fr.d fc hda (by decide)) (by decide) (by decide) (by decide))
  have cσ18_19 := fc.2.1 19 (by decide)
  have ps9 := p2.1; have cq9 := p2.2
  have pg9 := PgI.fr pg9 hda fc (by decide)
  have n17 := congrFun (Fr.ob fc hda (by decide)) 17
  (try simp only [rII, rIJ, rIP, rJJ, rJI, rJP, rPP, rPI, rPJ, g1, g2, g3, g4, g5, g6, g7, g8, Nat.reduceEqDiff, Nat.reduceAdd, false_and, and_false, true_and, and_true, reduceIte, nZ0, nZ1, hdm, hmd, hdj, hjd, sσ17_6.1, sσ17_6.2, pσ17] at n17)
  have okk : ∀ k, k ≠ 17 → gI σ18 da k = gI σ da k := fun k hk => (congrFun (Fr.ob fc hda (by decide)) k).trans (by (try simp only [rII, rIJ, rIP, rJJ, rJI, rJP, rPP, rPI, rPJ, g1, g2, g3, g4, g5, g6, g7, g8, Nat.reduceEqDiff, Nat.reduceAdd, false_and, and_false, true_and, and_true, reduceIte, nZ0, nZ1, hdm, hmd, hdj, hjd, sσ17_6.1, sσ17_6.2, pσ17]) <;> exact okk k hk)
  have n19 := (fc.2.1 19 (by decide)).1
  (try simp only [rII, rIJ, rIP, rJJ, rJI, rJP, rPP, rPI, rPJ, g1, g2, g3, g4, g5, g6, g7, g8, Nat.reduceEqDiff, Nat.reduceAdd, false_and, and_false, true_and, and_true, reduceIte, nZ0, nZ1, hdm, hmd, hdj, hjd, sσ17_6.1, sσ17_6.2, pσ17] at n19)
  have le6 := PsI.le ps9
  have s6n := (fσ18.2.1 6 (by decide)).1
  have ded : dq9 (gI σ18 da 17) = dp (gI σ da 17) + 1 := by rw [n17]; exact de9
  have de9 := ded
  have sσ18_6 := fσ18.2.1 6 (by decide)
  have pσ18 := fσ18.2.2.2.1 (by decide)
  try simp only [rII, rIJ, rIP, rJJ, rJI, rJP, rPP, rPI, rPJ, g1, g2, g3, g4, g5, g6, g7, g8, Nat.reduceEqDiff, Nat.reduceAdd, false_and, and_false, true_and, and_true, reduceIte, nZ0, nZ1, hdm, hmd, hdj, hjd, sσ18_6.1, sσ18_6.2, pσ18, cσ18_19.1, cσ18_19.2] at p2
  try simp only [forall_eq, rII, rIJ, rIP, rJJ, rJI, rJP, rPP, rPI, rPJ, g1, g2, g3, g4, g5, g6, g7, g8, Nat.reduceEqDiff, Nat.reduceAdd, false_and, and_false, true_and, and_true, reduceIte, nZ0, nZ1, hdm, hmd, hdj, hjd, sσ18_6.1, sσ18_6.2, pσ18, cσ18_19.1, cσ18_19.2]
  have q4 := rσ.2.1 19; simp only [rgS, hdm, hmd, hdj, hjd] at q4
  have q6 := rσ.2.1 6; simp only [rgS, hdm, hmd, hdj, hjd] at q6
  have L9 : ∀ (fu9 : Nat) (τ9 : Sg), Rg ra jx rm τ9 → FdO ra jx rm da o [15, 16] [4, 5, 7, 8, 9, 10, 11, 12, 13, 19] [15, 16] σ τ9 → ((∃ dq : Int → Int, (∀ pc, pc ≤ gI σ da 17 → dq pc = dp pc) ∧ PgI jx da τ9 dq ex ∧ dq (gI τ9 da 17) = dp (gI σ da 17) + 1) ∧ (PsI rm τ9 ∧ gI τ9 rm 8 = 1) ∧ (gI τ9 da 17 - 4 * cn rm τ9 ≤ gI σ da 17 - 4 * cn rm σ ∧ gI τ9 rm 19 = gI σ rm 19 ∧ gI σ da 17 < gI τ9 da 17) ∧ (∀ k, k ≠ 17 → gI τ9 da k = gI σ da k)) → ((gI σ rm 6 - cn rm τ9).toNat) < fu9 → wl_X16_sum_9 ra jx rm (wrec ra jx rm n) Q X fu9 τ9 v1 := by
    intro fu9
    induction fu9 with
    | zero => intro τ9 _ _ _ h9; omega
    | succ fu9 ih9 =>
      intro τ9 rτ9 fτ9 hi9 hm9
      unfold wl_X16_sum_9
      have sτ9_6 := fτ9.2.1 6 (by decide)
      have pτ9 := fτ9.2.2.2.1 (by decide)
      unfold w_X16_sum_9
      try simp only [forall_eq, rII, rIJ, rIP, rJJ, rJI, rJP, rPP, rPI, rPJ, g1, g2, g3, g4, g5, g6, g7, g8, Nat.reduceEqDiff, Nat.reduceAdd, false_and, and_false, true_and, and_true, reduceIte, nZ0, nZ1, hdm, hmd, hdj, hjd, sτ9_6.1, sτ9_6.2, pτ9]
      obtain ⟨⟨dq9, ag9, pg9, de9⟩, ⟨ps9, s8⟩, ⟨i1, i2, i3⟩, okk⟩ := hi9
      have le6 := PsI.le ps9
      have s6n := (fτ9.2.1 6 (by decide)).1
      have q7 := rτ9.2.1 9; simp only [rgS, hdm, hmd, hdj, hjd] at q7
      split
      · rename_i hc15
        skip
        unfold w_X16_sum_27
        try simp only [forall_eq, rII, rIJ, rIP, rJJ, rJI, rJP, rPP, rPI, rPJ, g1, g2, g3, g4, g5, g6, g7, g8, Nat.reduceEqDiff, Nat.reduceAdd, false_and, and_false, true_and, and_true, reduceIte, nZ0, nZ1, hdm, hmd, hdj, hjd, sτ9_6.1, sτ9_6.2, pτ9]
        rw [if_neg (show ¬ ((gI τ9 rm 9) ≠ 43) by omega)]
        unfold w_X16_sum_36
        try simp only [forall_eq, rII, rIJ, rIP, rJJ, rJI, rJP, rPP, rPI, rPJ, g1, g2, g3, g4, g5, g6, g7, g8, Nat.reduceEqDiff, Nat.reduceAdd, false_and, and_false, true_and, and_true, reduceIte, nZ0, nZ1, hdm, hmd, hdj, hjd, sτ9_6.1, sτ9_6.2, pτ9]
        unfold w_X16_sum_41
        try simp only [forall_eq, rII, rIJ, rIP, rJJ, rJI, rJP, rPP, rPI, rPJ, g1, g2, g3, g4, g5, g6, g7, g8, Nat.reduceEqDiff, Nat.reduceAdd, false_and, and_false, true_and, and_true, reduceIte, nZ0, nZ1, hdm, hmd, hdj, hjd, sτ9_6.1, sτ9_6.2, pτ9]
        refine s2_X16_take g rτ9 (by exact ps9) (by omega) (by omega) (fun σ19 _ rσ19 fc p8 => ?_)
        have fσ19 : FdO ra jx rm da o [15, 16] [4, 5, 7, 8, 9, 10, 11, 12, 13, 19] [15, 16] σ σ19 := FdO.tr fτ9 (FdO.mor (Fr.d fc hda (by decide)) (by decide) (by decide) (by decide))
        have cσ19_9 := fc.2.1 9 (by decide)
        have cσ19_19 := fc.2.1 19 (by decide)
        have ps9 := p8.1; have cq9 := p8.2
        have pg9 := PgI.fr pg9 hda fc (by decide)
        have n17 := congrFun (Fr.ob fc hda (by decide)) 17
        (try simp only [rII, rIJ, rIP, rJJ, rJI, rJP, rPP, rPI, rPJ, g1, g2, g3, g4, g5, g6, g7, g8, Nat.reduceEqDiff, Nat.reduceAdd, false_and, and_false, true_and, and_true, reduceIte, nZ0, nZ1, hdm, hmd, hdj, hjd, sτ9_6.1, sτ9_6.2, pτ9] at n17)
        have okk : ∀ k, k ≠ 17 → gI σ19 da k = gI σ da k := fun k hk => (congrFun (Fr.ob fc hda (by decide)) k).trans (by (try simp only [rII, rIJ, rIP, rJJ, rJI, rJP, rPP, rPI, rPJ, g1, g2, g3, g4, g5, g6, g7, g8, Nat.reduceEqDiff, Nat.reduceAdd, false_and, and_false, true_and, and_true, reduceIte, nZ0, nZ1, hdm, hmd, hdj, hjd, sτ9_6.1, sτ9_6.2, pτ9]) <;> exact okk k hk)
        have n19 := (fc.2.1 19 (by decide)).1
        have le6 := PsI.le ps9
        have s6n := (fσ19.2.1 6 (by decide)).1
        have ded : dq9 (gI σ19 da 17) = dp (gI σ da 17) + 1 := by rw [n17]; exact de9
        have de9 := ded
        have sσ19_6 := fσ19.2.1 6 (by decide)
        have pσ19 := fσ19.2.2.2.1 (by decide)
        try simp only [rII, rIJ, rIP, rJJ, rJI, rJP, rPP, rPI, rPJ, g1, g2, g3, g4, g5, g6, g7, g8, Nat.reduceEqDiff, Nat.reduceAdd, false_and, and_false, true_and, and_true, reduceIte, nZ0, nZ1, hdm, hmd, hdj, hjd, sσ19_6.1, sσ19_6.2, pσ19, cσ19_9.1, cσ19_9.2, cσ19_19.1, cσ19_19.2] at p8
        try simp only [forall_eq, rII, rIJ, rIP, rJJ, rJI, rJP, rPP, rPI, rPJ, g1, g2, g3, g4, g5, g6, g7, g8, Nat.reduceEqDiff, Nat.reduceAdd, false_and, and_false, true_and, and_true, reduceIte, nZ0, nZ1, hdm, hmd, hdj, hjd, sσ19_6.1, sσ19_6.2, pσ19, cσ19_9.1, cσ19_9.2, cσ19_19.1, cσ19_19.2]
        refine ih5 (o := o) (dp := dq9) (ex := ex) g rσ19 (by exact ps9) (by (try simp only [rII, rIJ, rIP, rJJ, rJI, rJP, rPP, rPI, rPJ, g1, g2, g3, g4, g5, g6, g7, g8, Nat.reduceEqDiff, Nat.reduceAdd, false_and, and_false, true_and, and_true, reduceIte, nZ0, nZ1, hdm, hmd, hdj, hjd, sσ19_6.1, sσ19_6.2, pσ19, cσ19_9.1, cσ19_9.2, cσ19_19.1, cσ19_19.2]) <;> first | exact hd | (rw [fσ19.2.2.2.1 (by decide)]; exact hd)) hda h1 (by (try simp only [rII, rIJ, rIP, rJJ, rJI, rJP, rPP, rPI, rPJ, g1, g2, g3, g4, g5, g6, g7, g8, Nat.reduceEqDiff, Nat.reduceAdd, false_and, and_false, true_and, and_true, reduceIte, nZ0, nZ1, hdm, hmd, hdj, hjd, sσ19_6.1, sσ19_6.2, pσ19, cσ19_9.1, cσ19_9.2, cσ19_19.1, cσ19_19.2]) <;> omega) (by exact pg9) (by (try simp only [rII, rIJ, rIP, rJJ, rJI, rJP, rPP, rPI, rPJ, g1, g2, g3, g4, g5, g6, g7, g8, Nat.reduceEqDiff, Nat.reduceAdd, false_and, and_false, true_and, and_true, reduceIte, nZ0, nZ1, hdm, hmd, hdj, hjd, sσ19_6.1, sσ19_6.2, pσ19, cσ19_9.1, cσ19_9.2, cσ19_19.1, cσ19_19.2]) <;> omega) (by (try simp only [rII, rIJ, rIP, rJJ, rJI, rJP, rPP, rPI, rPJ, g1, g2, g3, g4, g5, g6, g7, g8, Nat.reduceEqDiff, Nat.reduceAdd, false_and, and_false, true_and, and_true, reduceIte, nZ0, nZ1, hdm, hmd, hdj, hjd, sσ19_6.1, sσ19_6.2, pσ19, cσ19_9.1, cσ19_9.2, cσ19_19.1, cσ19_19.2]) <;> exact fun pc hp => hex pc (by omega)) (by (try simp only [rII, rIJ, rIP, rJJ, rJI, rJP, rPP, rPI, rPJ, g1, g2, g3, g4, g5, g6, g7, g8, Nat.reduceEqDiff, Nat.reduceAdd, false_and, and_false, true_and, and_true, reduceIte, nZ0, nZ1, hdm, hmd, hdj, hjd, sσ19_6.1, sσ19_6.2, pσ19, cσ19_9.1, cσ19_9.2, cσ19_19.1, cσ19_19.2]) <;> omega) (fun σ20 _ rσ20 fc p9 => ?_) (fun σx E rx fx px => hX _ _ rx (FdO.tr fσ19 (FdO.mor (fx) (by decide) (by decide) (by decide))) px)
        have fσ20 : FdO ra jx rm da o [15, 16] [4, 5, 7, 8, 9, 10, 11, 12, 13, 19] [15, 16] σ σ20 := FdO.tr fσ19 (FdO.mor (fc) (by decide) (by decide) (by decide))
        have ag7 := ag9; have de7 := de9
        obtain ⟨⟨dq8, ag8, pg9, de8⟩, ps9, cq9, n19, nl9, ok9⟩ := p9
        have okk : ∀ k, k ≠ 17 → gI σ20 da k = gI σ da k := fun k hk => (ok9 k hk).trans (okk k hk)
        (try simp only [rII, rIJ, rIP, rJJ, rJI, rJP, rPP, rPI, rPJ, g1, g2, g3, g4, g5, g6, g7, g8, Nat.reduceEqDiff, Nat.reduceAdd, false_and, and_false, true_and, and_true, reduceIte, nZ0, nZ1, hdm, hmd, hdj, hjd, sσ19_6.1, sσ19_6.2, pσ19, cσ19_9.1, cσ19_9.2, cσ19_19.1, cσ19_19.2] at cq9 n19 nl9 ag8 de8)
        have ag9 : ∀ pc, pc ≤ gI σ da 17 → dq8 pc = dp pc := fun pc hp => by rw [ag8 pc (by omega)]; exact ag7 pc hp
        have de9 : dq8 (gI σ20 da 17) = dp (gI σ da 17) + 2 := by omega
        have le6 := PsI.le ps9
        have s6n := (fσ20.2.1 6 (by decide)).1
        have sσ20_6 := fσ20.2.1 6 (by decide)
        have pσ20 := fσ20.2.2.2.1 (by decide)
        try simp only [rII, rIJ, rIP, rJJ, rJI, rJP, rPP, rPI, rPJ, g1, g2, g3, g4, g5, g6, g7, g8, Nat.reduceEqDiff, Nat.reduceAdd, false_and, and_false, true_and, and_true, reduceIte, nZ0, nZ1, hdm, hmd, hdj, hjd, sσ20_6.1, sσ20_6.2, pσ20, cσ19_9.1, cσ19_9.2, cσ19_19.1, cσ19_19.2] at p9
        try simp only [forall_eq, rII, rIJ, rIP, rJJ, rJI, rJP, rPP, rPI, rPJ, g1, g2, g3, g4, g5, g6, g7, g8, Nat.reduceEqDiff, Nat.reduceAdd, false_and, and_false, true_and, and_true, reduceIte, nZ0, nZ1, hdm, hmd, hdj, hjd, sσ20_6.1, sσ20_6.2, pσ20, cσ19_9.1, cσ19_9.2, cσ19_19.1, cσ19_19.2]
        refine ⟨da, by exact hd, hda, ?_⟩
        refine s2_X15_step (o := o) g rσ20 hda (by omega) (by omega) (fun σ22 r23 rσ22 fc p10 => ?_)
        have fσ22 : FdO ra jx rm da o [15, 16] [4, 5, 7, 8, 9, 10, 11, 12, 13, 19] [15, 16] σ σ22 := FdO.tr fσ20 (FdO.mor (fc) (by decide) (by decide) (by decide))
        have cσ22_8 := fc.2.1 8 (by decide)
        have cσ22_9 := fc.2.1 9 (by decide)
        have cσ22_19 := fc.2.1 19 (by decide)
        have st0 := p10.1; have st1 := p10.2.1; have st2 := p10.2.2.1; have st3 := p10.2.2.2.1
        have okk : ∀ k, k ≠ 17 → gI σ22 da k = gI σ da k := fun k hk => by rw [p10.2.2.2.2 k hk]; exact okk k hk
        have pf9 := PsI.frj ps9 (FdO.fj fc) (by decide)
        have ps9 := pf9.1; have cq9 := pf9.2
        have n19 := (fc.2.1 19 (by decide)).1
        have le6 := PsI.le ps9
        have s6n := (fσ22.2.1 6 (by decide)).1
        obtain ⟨dq9, ag8, pg9, de8⟩ := PgI.putE (d' := dp (gI σ da 17) + 1) pg9 (by omega) st1 st2 st3 de9 (by omega) (by omega) (Or.inr (Or.inr (Or.inl ⟨by omega, by omega, by omega, by omega⟩)))
        have ag9 : ∀ pc, pc ≤ gI σ da 17 → dq9 pc = dp pc := fun pc hp => (ag8 pc (by omega)).trans (ag9 pc hp)
        have de9 := de8
        have sσ22_6 := fσ22.2.1 6 (by decide)
        have pσ22 := fσ22.2.2.2.1 (by decide)
        try simp only [rII, rIJ, rIP, rJJ, rJI, rJP, rPP, rPI, rPJ, g1, g2, g3, g4, g5, g6, g7, g8, Nat.reduceEqDiff, Nat.reduceAdd, false_and, and_false, true_and, and_true, reduceIte, nZ0, nZ1, hdm, hmd, hdj, hjd, sσ22_6.1, sσ22_6.2, pσ22, cσ19_9.1, cσ19_9.2, cσ19_19.1, cσ19_19.2, cσ22_8.1, cσ22_8.2, cσ22_9.1, cσ22_9.2, cσ22_19.1, cσ22_19.2] at p10
        try simp only [forall_eq, rII, rIJ, rIP, rJJ, rJI, rJP, rPP, rPI, rPJ, g1, g2, g3, g4, g5, g6, g7, g8, Nat.reduceEqDiff, Nat.reduceAdd, false_and, and_false, true_and, and_true, reduceIte, nZ0, nZ1, hdm, hmd, hdj, hjd, sσ22_6.1, sσ22_6.2, pσ22, cσ19_9.1, cσ19_9.2, cσ19_19.1, cσ19_19.2, cσ22_8.1, cσ22_8.2, cσ22_9.1, cσ22_9.2, cσ22_19.1, cσ22_19.2]
        refine s2_X16_see g rσ22 (by exact ps9) (fun σ24 _ rσ24 fc p11 => ?_) (fun σx E rx fx px => hX _ _ rx (FdO.tr fσ22 (FdO.mor (Fr.d fx hda (by decide)) (by decide) (by decide) (by decide))) px)
        have fσ24 : FdO ra jx rm da o [15, 16] [4, 5, 7, 8, 9, 10, 11, 12, 13, 19] [15, 16] σ σ24 := FdO.tr fσ22 (FdO.mor (Fr.d fc hda (by decide)) (by decide) (by decide) (by decide))
        have cσ24_19 := fc.2.1 19 (by decide)
        have ps9 := p11.1; have cq9 := p11.2
        have pg9 := PgI.fr pg9 hda fc (by decide)
        have n17 := congrFun (Fr.ob fc hda (by decide)) 17
        (try simp only [rII, rIJ, rIP, rJJ, rJI, rJP, rPP, rPI, rPJ, g1, g2, g3, g4, g5, g6, g7, g8, Nat.reduceEqDiff, Nat.reduceAdd, false_and, and_false, true_and, and_true, reduceIte, nZ0, nZ1, hdm, hmd, hdj, hjd, sσ22_6.1, sσ22_6.2, pσ22, cσ19_9.1, cσ19_9.2, cσ19_19.1, cσ19_19.2, cσ22_8.1, cσ22_8.2, cσ22_9.1, cσ22_9.2, cσ22_19.1, cσ22_19.2] at n17)
        have okk : ∀ k, k ≠ 17 → gI σ24 da k = gI σ da k := fun k hk => (congrFun (Fr.ob fc hda (by decide)) k).trans (by (try simp only [rII, rIJ, rIP, rJJ, rJI, rJP, rPP, rPI, rPJ, g1, g2, g3, g4, g5, g6, g7, g8, Nat.reduceEqDiff, Nat.reduceAdd, false_and, and_false, true_and, and_true, reduceIte, nZ0, nZ1, hdm, hmd, hdj, hjd, sσ22_6.1, sσ22_6.2, pσ22, cσ19_9.1, cσ19_9.2, cσ19_19.1, cσ19_19.2, cσ22_8.1, cσ22_8.2, cσ22_9.1, cσ22_9.2, cσ22_19.1, cσ22_19.2]) <;> exact okk k hk)
        have n19 := (fc.2.1 19 (by decide)).1
        (try simp only [rII, rIJ, rIP, rJJ, rJI, rJP, rPP, rPI, rPJ, g1, g2, g3, g4, g5, g6, g7, g8, Nat.reduceEqDiff, Nat.reduceAdd, false_and, and_false, true_and, and_true, reduceIte, nZ0, nZ1, hdm, hmd, hdj, hjd, sσ22_6.1, sσ22_6.2, pσ22, cσ19_9.1, cσ19_9.2, cσ19_19.1, cσ19_19.2, cσ22_8.1, cσ22_8.2, cσ22_9.1, cσ22_9.2, cσ22_19.1, cσ22_19.2] at n19)
        have le6 := PsI.le ps9
        have s6n := (fσ24.2.1 6 (by decide)).1
        have ded : dq9 (gI σ24 da 17) = dp (gI σ da 17) + 1 := by rw [n17]; exact de9
        have de9 := ded
        have sσ24_6 := fσ24.2.1 6 (by decide)
        have pσ24 := fσ24.2.2.2.1 (by decide)
        try simp only [rII, rIJ, rIP, rJJ, rJI, rJP, rPP, rPI, rPJ, g1, g2, g3, g4, g5, g6, g7, g8, Nat.reduceEqDiff, Nat.reduceAdd, false_and, and_false, true_and, and_true, reduceIte, nZ0, nZ1, hdm, hmd, hdj, hjd, sσ24_6.1, sσ24_6.2, pσ24, cσ19_9.1, cσ19_9.2, cσ19_19.1, cσ19_19.2, cσ22_8.1, cσ22_8.2, cσ22_9.1, cσ22_9.2, cσ22_19.1, cσ22_19.2, cσ24_19.1, cσ24_19.2] at p11
        try simp only [forall_eq, rII, rIJ, rIP, rJJ, rJI, rJP, rPP, rPI, rPJ, g1, g2, g3, g4, g5, g6, g7, g8, Nat.reduceEqDiff, Nat.reduceAdd, false_and, and_false, true_and, and_true, reduceIte, nZ0, nZ1, hdm, hmd, hdj, hjd, sσ24_6.1, sσ24_6.2, pσ24, cσ19_9.1, cσ19_9.2, cσ19_19.1, cσ19_19.2, cσ22_8.1, cσ22_8.2, cσ22_9.1, cσ22_9.2, cσ22_19.1, cσ22_19.2, cσ24_19.1, cσ24_19.2]
        refine ih9 _ ?_ ?_ ?_ ?_
        · exact rσ24
        · exact fσ24
        · exact ⟨⟨dq9, ag9, pg9, by omega⟩, ⟨ps9, by omega⟩, ⟨by omega, by omega, by omega⟩, okk⟩
        · (try simp only [rII, rIJ, rIP, rJJ, rJI, rJP, rPP, rPI, rPJ, g1, g2, g3, g4, g5, g6, g7, g8, Nat.reduceEqDiff, Nat.reduceAdd, false_and, and_false, true_and, and_true, reduceIte, nZ0, nZ1, hdm, hmd, hdj, hjd, sσ24_6.1, sσ24_6.2, pσ24, cσ19_9.1, cσ19_9.2, cσ19_19.1, cσ19_19.2, cσ22_8.1, cσ22_8.2, cσ22_9.1, cσ22_9.2, cσ22_19.1, cσ22_19.2, cσ24_19.1, cσ24_19.2]) <;> (first | omega | with_reducible assumption | (unfold rng; omega) | (unfold rng; (repeat' split) <;> omega) | decide)
      · rename_i hc15
        skip
        unfold w_X16_sum_18
        try simp only [forall_eq, rII, rIJ, rIP, rJJ, rJI, rJP, rPP, rPI, rPJ, g1, g2, g3, g4, g5, g6, g7, g8, Nat.reduceEqDiff, Nat.reduceAdd, false_and, and_false, true_and, and_true, reduceIte, nZ0, nZ1, hdm, hmd, hdj, hjd, sτ9_6.1, sτ9_6.2, pτ9]
        split
        · rename_i hc24
          skip
          unfold w_X16_sum_68
          try simp only [forall_eq, rII, rIJ, rIP, rJJ, rJI, rJP, rPP, rPI, rPJ, g1, g2, g3, g4, g5, g6, g7, g8, Nat.reduceEqDiff, Nat.reduceAdd, false_and, and_false, true_and, and_true, reduceIte, nZ0, nZ1, hdm, hmd, hdj, hjd, sτ9_6.1, sτ9_6.2, pτ9]
          refine hQ _ _ ?_ ?_ ?_
          · exact rτ9
          · exact fτ9
          · exact ⟨⟨dq9, ag9, pg9, by omega⟩, ps9, by omega, by omega, by omega, okk⟩
        · rename_i hc24
          skip
          unfold w_X16_sum_27
          try simp only [forall_eq, rII, rIJ, rIP, rJJ, rJI, rJP, rPP, rPI, rPJ, g1, g2, g3, g4, g5, g6, g7, g8, Nat.reduceEqDiff, Nat.reduceAdd, false_and, and_false, true_and, and_true, reduceIte, nZ0, nZ1, hdm, hmd, hdj, hjd, sτ9_6.1, sτ9_6.2, pτ9]
          rw [if_pos (show ((gI τ9 rm 9) ≠ 43) by omega)]
          unfold w_X16_sum_40
          try simp only [forall_eq, rII, rIJ, rIP, rJJ, rJI, rJP, rPP, rPI, rPJ, g1, g2, g3, g4, g5, g6, g7, g8, Nat.reduceEqDiff, Nat.reduceAdd, false_and, and_false, true_and, and_true, reduceIte, nZ0, nZ1, hdm, hmd, hdj, hjd, sτ9_6.1, sτ9_6.2, pτ9]
          unfold w_X16_sum_41
          try simp only [forall_eq, rII, rIJ, rIP, rJJ, rJI, rJP, rPP, rPI, rPJ, g1, g2, g3, g4, g5, g6, g7, g8, Nat.reduceEqDiff, Nat.reduceAdd, false_and, and_false, true_and, and_true, reduceIte, nZ0, nZ1, hdm, hmd, hdj, hjd, sτ9_6.1, sτ9_6.2, pτ9]
          refine s2_X16_take g rτ9 (by exact ps9) (by omega) (by omega) (fun σ25 _ rσ25 fc p12 => ?_)
          have fσ25 : FdO ra jx rm da o [15, 16] [4, 5, 7, 8, 9, 10, 11, 12, 13, 19] [15, 16] σ σ25 := FdO.tr fτ9 (FdO.mor (Fr.d fc hda (by decide)) (by decide) (by decide) (by decide))
          have cσ25_9 := fc.2.1 9 (by decide)
          have cσ25_19 := fc.2.1 19 (by decide)
          have ps9 := p12.1; have cq9 := p12.2
          have pg9 := PgI.fr pg9 hda fc (by decide)
          have n17 := congrFun (Fr.ob fc hda (by decide)) 17
          (try simp only [rII, rIJ, rIP, rJJ, rJI, rJP, rPP, rPI, rPJ, g1, g2, g3, g4, g5, g6, g7, g8, Nat.reduceEqDiff, Nat.reduceAdd, false_and, and_false, true_and, and_true, reduceIte, nZ0, nZ1, hdm, hmd, hdj, hjd, sτ9_6.1, sτ9_6.2, pτ9] at n17)
          have okk : ∀ k, k ≠ 17 → gI σ25 da k = gI σ da k := fun k hk => (congrFun (Fr.ob fc hda (by decide)) k).trans (by (try simp only [rII, rIJ, rIP, rJJ, rJI, rJP, rPP, rPI, rPJ, g1, g2, g3, g4, g5, g6, g7, g8, Nat.reduceEqDiff, Nat.reduceAdd, false_and, and_false, true_and, and_true, reduceIte, nZ0, nZ1, hdm, hmd, hdj, hjd, sτ9_6.1, sτ9_6.2, pτ9]) <;> exact okk k hk)
          have n19 := (fc.2.1 19 (by decide)).1
          have le6 := PsI.le ps9
          have s6n := (fσ25.2.1 6 (by decide)).1
          have ded : dq9 (gI σ25 da 17) = dp (gI σ da 17) + 1 := by rw [n17]; exact de9
          have de9 := ded
          have sσ25_6 := fσ25.2.1 6 (by decide)
          have pσ25 := fσ25.2.2.2.1 (by decide)
          try simp only [rII, rIJ, rIP, rJJ, rJI, rJP, rPP, rPI, rPJ, g1, g2, g3, g4, g5, g6, g7, g8, Nat.reduceEqDiff, Nat.reduceAdd, false_and, and_false, true_and, and_true, reduceIte, nZ0, nZ1, hdm, hmd, hdj, hjd, sσ25_6.1, sσ25_6.2, pσ25, cσ25_9.1, cσ25_9.2, cσ25_19.1, cσ25_19.2] at p12
          try simp only [forall_eq, rII, rIJ, rIP, rJJ, rJI, rJP, rPP, rPI, rPJ, g1, g2, g3, g4, g5, g6, g7, g8, Nat.reduceEqDiff, Nat.reduceAdd, false_and, and_false, true_and, and_true, reduceIte, nZ0, nZ1, hdm, hmd, hdj, hjd, sσ25_6.1, sσ25_6.2, pσ25, cσ25_9.1, cσ25_9.2, cσ25_19.1, cσ25_19.2]
          refine ih5 (o := o) (dp := dq9) (ex := ex) g rσ25 (by exact ps9) (by (try simp only [rII, rIJ, rIP, rJJ, rJI, rJP, rPP, rPI, rPJ, g1, g2, g3, g4, g5, g6, g7, g8, Nat.reduceEqDiff, Nat.reduceAdd, false_and, and_false, true_and, and_true, reduceIte, nZ0, nZ1, hdm, hmd, hdj, hjd, sσ25_6.1, sσ25_6.2, pσ25, cσ25_9.1, cσ25_9.2, cσ25_19.1, cσ25_19.2]) <;> first | exact hd | (rw [fσ25.2.2.2.1 (by decide)]; exact hd)) hda h1 (by (try simp only [rII, rIJ, rIP, rJJ, rJI, rJP, rPP, rPI, rPJ, g1, g2, g3, g4, g5, g6, g7, g8, Nat.reduceEqDiff, Nat.reduceAdd, false_and, and_false, true_and, and_true, reduceIte, nZ0, nZ1, hdm, hmd, hdj, hjd, sσ25_6.1, sσ25_6.2, pσ25, cσ25_9.1, cσ25_9.2, cσ25_19.1, cσ25_19.2]) <;> omega) (by exact pg9) (by (try simp only [rII, rIJ, rIP, rJJ, rJI, rJP, rPP, rPI, rPJ, g1, g2, g3, g4, g5, g6, g7, g8, Nat.reduceEqDiff, Nat.reduceAdd, false_and, and_false, true_and, and_true, reduceIte, nZ0, nZ1, hdm, hmd, hdj, hjd, sσ25_6.1, sσ25_6.2, pσ25, cσ25_9.1, cσ25_9.2, cσ25_19.1, cσ25_19.2]) <;> omega) (by (try simp only [rII, rIJ, rIP, rJJ, rJI, rJP, rPP, rPI, rPJ, g1, g2, g3, g4, g5, g6, g7, g8, Nat.reduceEqDiff, Nat.reduceAdd, false_and, and_false, true_and, and_true, reduceIte, nZ0, nZ1, hdm, hmd, hdj, hjd, sσ25_6.1, sσ25_6.2, pσ25, cσ25_9.1, cσ25_9.2, cσ25_19.1, cσ25_19.2]) <;> exact fun pc hp => hex pc (by omega)) (by (try simp only [rII, rIJ, rIP, rJJ, rJI, rJP, rPP, rPI, rPJ, g1, g2, g3, g4, g5, g6, g7, g8, Nat.reduceEqDiff, Nat.reduceAdd, false_and, and_false, true_and, and_true, reduceIte, nZ0, nZ1, hdm, hmd, hdj, hjd, sσ25_6.1, sσ25_6.2, pσ25, cσ25_9.1, cσ25_9.2, cσ25_19.1, cσ25_19.2]) <;> omega) (fun σ26 _ rσ26 fc p13 => ?_) (fun σx E rx fx px => hX _ _ rx (FdO.tr fσ25 (FdO.mor (fx) (by decide) (by decide) (by decide))) px)
          have fσ26 : FdO ra jx rm da o [15, 16] [4, 5, 7, 8, 9, 10, 11, 12, 13, 19] [15, 16] σ σ26 := FdO.tr fσ25 (FdO.mor (fc) (by decide) (by decide) (by decide))
          have ag7 := ag9; have de7 := de9
          obtain ⟨⟨dq8, ag8, pg9, de8⟩, ps9, cq9, n19, nl9, ok9⟩ := p13
          have okk : ∀ k, k ≠ 17 → gI σ26 da k = gI σ da k := fun k hk => (ok9 k hk).trans (okk k hk)
          (try simp only [rII, rIJ, rIP, rJJ, rJI, rJP, rPP, rPI, rPJ, g1, g2, g3, g4, g5, g6, g7, g8, Nat.reduceEqDiff, Nat.reduceAdd, false_and, and_false, true_and, and_true, reduceIte, nZ0, nZ1, hdm, hmd, hdj, hjd, sσ25_6.1, sσ25_6.2, pσ25, cσ25_9.1, cσ25_9.2, cσ25_19.1, cσ25_19.2] at cq9 n19 nl9 ag8 de8)
          have ag9 : ∀ pc, pc ≤ gI σ da 17 → dq8 pc = dp pc := fun pc hp => by rw [ag8 pc (by omega)]; exact ag7 pc hp
          have de9 : dq8 (gI σ26 da 17) = dp (gI σ da 17) + 2 := by omega
          have le6 := PsI.le ps9
          have s6n := (fσ26.2.1 6 (by decide)).1
          have sσ26_6 := fσ26.2.1 6 (by decide)
          have pσ26 := fσ26.2.2.2.1 (by decide)
          try simp only [rII, rIJ, rIP, rJJ, rJI, rJP, rPP, rPI, rPJ, g1, g2, g3, g4, g5, g6, g7, g8, Nat.reduceEqDiff, Nat.reduceAdd, false_and, and_false, true_and, and_true, reduceIte, nZ0, nZ1, hdm, hmd, hdj, hjd, sσ26_6.1, sσ26_6.2, pσ26, cσ25_9.1, cσ25_9.2, cσ25_19.1, cσ25_19.2] at p13
          try simp only [forall_eq, rII, rIJ, rIP, rJJ, rJI, rJP, rPP, rPI, rPJ, g1, g2, g3, g4, g5, g6, g7, g8, Nat.reduceEqDiff, Nat.reduceAdd, false_and, and_false, true_and, and_true, reduceIte, nZ0, nZ1, hdm, hmd, hdj, hjd, sσ26_6.1, sσ26_6.2, pσ26, cσ25_9.1, cσ25_9.2, cσ25_19.1, cσ25_19.2]
          refine ⟨da, by exact hd, hda, ?_⟩
          refine s2_X15_step (o := o) g rσ26 hda (by omega) (by omega) (fun σ28 r29 rσ28 fc p14 => ?_)
          have fσ28 : FdO ra jx rm da o [15, 16] [4, 5, 7, 8, 9, 10, 11, 12, 13, 19] [15, 16] σ σ28 := FdO.tr fσ26 (FdO.mor (fc) (by decide) (by decide) (by decide))
          have cσ28_8 := fc.2.1 8 (by decide)
          have cσ28_9 := fc.2.1 9 (by decide)
          have cσ28_19 := fc.2.1 19 (by decide)
          have st0 := p14.1; have st1 := p14.2.1; have st2 := p14.2.2.1; have st3 := p14.2.2.2.1
          have okk : ∀ k, k ≠ 17 → gI σ28 da k = gI σ da k := fun k hk => by rw [p14.2.2.2.2 k hk]; exact okk k hk
          have pf9 := PsI.frj ps9 (FdO.fj fc) (by decide)
          have ps9 := pf9.1; have cq9 := pf9.2
          have n19 := (fc.2.1 19 (by decide)).1
          have le6 := PsI.le ps9
          have s6n := (fσ28.2.1 6 (by decide)).1
          obtain ⟨dq9, ag8, pg9, de8⟩ := PgI.putE (d' := dp (gI σ da 17) + 1) pg9 (by omega) st1 st2 st3 de9 (by omega) (by omega) (Or.inr (Or.inr (Or.inl ⟨by omega, by omega, by omega, by omega⟩)))
          have ag9 : ∀ pc, pc ≤ gI σ da 17 → dq9 pc = dp pc := fun pc hp => (ag8 pc (by omega)).trans (ag9 pc hp)
          have de9 := de8
          have sσ28_6 := fσ28.2.1 6 (by decide)
          have pσ28 := fσ28.2.2.2.1 (by decide)
          try simp only [rII, rIJ, rIP, rJJ, rJI, rJP, rPP, rPI, rPJ, g1, g2, g3, g4, g5, g6, g7, g8, Nat.reduceEqDiff, Nat.reduceAdd, false_and, and_false, true_and, and_true, reduceIte, nZ0, nZ1, hdm, hmd, hdj, hjd, sσ28_6.1, sσ28_6.2, pσ28, cσ25_9.1, cσ25_9.2, cσ25_19.1, cσ25_19.2, cσ28_8.1, cσ28_8.2, cσ28_9.1, cσ28_9.2, cσ28_19.1, cσ28_19.2] at p14
          try simp only [forall_eq, rII, rIJ, rIP, rJJ, rJI, rJP, rPP, rPI, rPJ, g1, g2, g3, g4, g5, g6, g7, g8, Nat.reduceEqDiff, Nat.reduceAdd, false_and, and_false, true_and, and_true, reduceIte, nZ0, nZ1, hdm, hmd, hdj, hjd, sσ28_6.1, sσ28_6.2, pσ28, cσ25_9.1, cσ25_9.2, cσ25_19.1, cσ25_19.2, cσ28_8.1, cσ28_8.2, cσ28_9.1, cσ28_9.2, cσ28_19.1, cσ28_19.2]
          refine s2_X16_see g rσ28 (by exact ps9) (fun σ30 _ rσ30 fc p15 => ?_) (fun σx E rx fx px => hX _ _ rx (FdO.tr fσ28 (FdO.mor (Fr.d fx hda (by decide)) (by decide) (by decide) (by decide))) px)
          have fσ30 : FdO ra jx rm da o [15, 16] [4, 5, 7, 8, 9, 10, 11, 12, 13, 19] [15, 16] σ σ30 := FdO.tr fσ28 (FdO.mor (Fr.d fc hda (by decide)) (by decide) (by decide) (by decide))
          have cσ30_19 := fc.2.1 19 (by decide)
          have ps9 := p15.1; have cq9 := p15.2
          have pg9 := PgI.fr pg9 hda fc (by decide)
          have n17 := congrFun (Fr.ob fc hda (by decide)) 17
          (try simp only [rII, rIJ, rIP, rJJ, rJI, rJP, rPP, rPI, rPJ, g1, g2, g3, g4, g5, g6, g7, g8, Nat.reduceEqDiff, Nat.reduceAdd, false_and, and_false, true_and, and_true, reduceIte, nZ0, nZ1, hdm, hmd, hdj, hjd, sσ28_6.1, sσ28_6.2, pσ28, cσ25_9.1, cσ25_9.2, cσ25_19.1, cσ25_19.2, cσ28_8.1, cσ28_8.2, cσ28_9.1, cσ28_9.2, cσ28_19.1, cσ28_19.2] at n17)
          have okk : ∀ k, k ≠ 17 → gI σ30 da k = gI σ da k := fun k hk => (congrFun (Fr.ob fc hda (by decide)) k).trans (by (try simp only [rII, rIJ, rIP, rJJ, rJI, rJP, rPP, rPI, rPJ, g1, g2, g3, g4, g5, g6, g7, g8, Nat.reduceEqDiff, Nat.reduceAdd, false_and, and_false, true_and, and_true, reduceIte, nZ0, nZ1, hdm, hmd, hdj, hjd, sσ28_6.1, sσ28_6.2, pσ28, cσ25_9.1, cσ25_9.2, cσ25_19.1, cσ25_19.2, cσ28_8.1, cσ28_8.2, cσ28_9.1, cσ28_9.2, cσ28_19.1, cσ28_19.2]) <;> exact okk k hk)
          have n19 := (fc.2.1 19 (by decide)).1
          (try simp only [rII, rIJ, rIP, rJJ, rJI, rJP, rPP, rPI, rPJ, g1, g2, g3, g4, g5, g6, g7, g8, Nat.reduceEqDiff, Nat.reduceAdd, false_and, and_false, true_and, and_true, reduceIte, nZ0, nZ1, hdm, hmd, hdj, hjd, sσ28_6.1, sσ28_6.2, pσ28, cσ25_9.1, cσ25_9.2, cσ25_19.1, cσ25_19.2, cσ28_8.1, cσ28_8.2, cσ28_9.1, cσ28_9.2, cσ28_19.1, cσ28_19.2] at n19)
          have le6 := PsI.le ps9
          have s6n := (fσ30.2.1 6 (by decide)).1
          have ded : dq9 (gI σ30 da 17) = dp (gI σ da 17) + 1 := by rw [n17]; exact de9
          have de9 := ded
          have sσ30_6 := fσ30.2.1 6 (by decide)
          have pσ30 := fσ30.2.2.2.1 (by decide)
          try simp only [rII, rIJ, rIP, rJJ, rJI, rJP, rPP, rPI, rPJ, g1, g2, g3, g4, g5, g6, g7, g8, Nat.reduceEqDiff, Nat.reduceAdd, false_and, and_false, true_and, and_true, reduceIte, nZ0, nZ1, hdm, hmd, hdj, hjd, sσ30_6.1, sσ30_6.2, pσ30, cσ25_9.1, cσ25_9.2, cσ25_19.1, cσ25_19.2, cσ28_8.1, cσ28_8.2, cσ28_9.1, cσ28_9.2, cσ28_19.1, cσ28_19.2, cσ30_19.1, cσ30_19.2] at p15
          try simp only [forall_eq, rII, rIJ, rIP, rJJ, rJI, rJP, rPP, rPI, rPJ, g1, g2, g3, g4, g5, g6, g7, g8, Nat.reduceEqDiff, Nat.reduceAdd, false_and, and_false, true_and, and_true, reduceIte, nZ0, nZ1, hdm, hmd, hdj, hjd, sσ30_6.1, sσ30_6.2, pσ30, cσ25_9.1, cσ25_9.2, cσ25_19.1, cσ25_19.2, cσ28_8.1, cσ28_8.2, cσ28_9.1, cσ28_9.2, cσ28_19.1, cσ28_19.2, cσ30_19.1, cσ30_19.2]
          refine ih9 _ ?_ ?_ ?_ ?_
          · exact rσ30
          · exact fσ30
          · exact ⟨⟨dq9, ag9, pg9, by omega⟩, ⟨ps9, by omega⟩, ⟨by omega, by omega, by omega⟩, okk⟩
          · (try simp only [rII, rIJ, rIP, rJJ, rJI, rJP, rPP, rPI, rPJ, g1, g2, g3, g4, g5, g6, g7, g8, Nat.reduceEqDiff, Nat.reduceAdd, false_and, and_false, true_and, and_true, reduceIte, nZ0, nZ1, hdm, hmd, hdj, hjd, sσ30_6.1, sσ30_6.2, pσ30, cσ25_9.1, cσ25_9.2, cσ25_19.1, cσ25_19.2, cσ28_8.1, cσ28_8.2, cσ28_9.1, cσ28_9.2, cσ28_19.1, cσ28_19.2, cσ30_19.1, cσ30_19.2]) <;> (first | omega | with_reducible assumption | (unfold rng; omega) | (unfold rng; (repeat' split) <;> omega) | decide)
  refine ⟨_, L9 _ _ ?_ ?_ ?_ (Nat.lt_succ_self _)⟩
  · exact rσ18
  · exact fσ18
  · exact ⟨⟨dq9, ag9, pg9, by omega⟩, ⟨ps9, by omega⟩, ⟨by omega, by omega, by omega⟩, okk⟩
set_option maxHeartbeats 1000000 in
theorem s_X16_product {ra : Nat → Nat} {jx : Nat → Nat → Nat} {rm : Nat} {n : Nat} {da : Nat} {o : Int} {dp : Int → Int} {ex : Int → Prop} (g : Geo ra jx rm) {σ : Sg} {v1 : Int} (rσ : Rg ra jx rm σ) (hps : PsI rm σ) (hd : gP σ rm 18 = some da) (hda : da = ra 15 ∨ da = ra 16) (h1 : 0 ≤ v1 ∧ v1 < 16) (hN : 0 ≤ gI σ da 17 ∧ gI σ da 17 ≤ 4 * cn rm σ) (hpg : PgI jx da σ dp ex) (hdp : 0 ≤ dp (gI σ da 17) ∧ dp (gI σ da 17) ≤ 3 * gI σ rm 19 + 2) (hex : ∀ pc, gI σ da 17 ≤ pc → ¬ ex pc) (hfu : 7 * (11 - gI σ rm 19) - 5 ≤ (n : Int) + 1) (ih0 : ∀ {da : Nat} {o : Int} {dp : Int → Int} {ex : Int → Prop} (_ : Geo ra jx rm) {σ : Sg} {v1 : Int} (_ : Rg ra jx rm σ) (_ : PsI rm σ) (_ : gP σ rm 18 = some da) (_ : da = ra 15 ∨ da = ra 16) (_ : 0 ≤ v1 ∧ v1 < 16) (_ : 0 ≤ gI σ da 17 ∧ gI σ da 17 ≤ 4 * cn rm σ) (_ : PgI jx da σ dp ex) (_ : 0 ≤ dp (gI σ da 17) ∧ dp (gI σ da 17) ≤ 3 * gI σ rm 19 + 0) (_ : ∀ pc, gI σ da 17 ≤ pc → ¬ ex pc) (_ : 7 * (11 - gI σ rm 19) - 0 ≤ (n : Int)) {Q : Sg → Unit → Prop} {X : Sg → String → Prop} (_ : ∀ (σ' : Sg) (r : Unit), Rg ra jx rm σ' → FdO ra jx rm da o [15, 16] [4, 5, 7, 8, 9, 10, 11, 12, 13, 19] [15, 16] σ σ' → ((∃ dq : Int → Int, (∀ pc, pc ≤ gI σ da 17 → dq pc = dp pc) ∧ PgI jx da σ' dq ex ∧ dq (gI σ' da 17) = dp (gI σ da 17) + 1) ∧ PsI rm σ' ∧ gI σ' da 17 - 4 * cn rm σ' ≤ gI σ da 17 - 4 * cn rm σ ∧ gI σ' rm 19 = gI σ rm 19 ∧ gI σ da 17 < gI σ' da 17 ∧ (∀ k, k ≠ 17 → gI σ' da k = gI σ da k)) → Q σ' r) (_ : ∀ (σ' : Sg) (E : String), Rg ra jx rm σ' → FdO ra jx rm da o [15, 16] [4, 5, 7, 8, 9, 10, 11, 12, 13, 19] [15, 16] σ σ' → (E = "StreamHouseModel$Fault") → X σ' E), wrec ra jx rm n 0 v1 σ Q X) (ih1 : ∀ {da : Nat} {o : Int} {dp : Int → Int} {ex : Int → Prop} (_ : Geo ra jx rm) {σ : Sg} {v1 : Int} (_ : Rg ra jx rm σ) (_ : PsI rm σ) (_ : gP σ rm 18 = some da) (_ : da = ra 15 ∨ da = ra 16) (_ : 0 ≤ v1 ∧ v1 < 16) (_ : 0 ≤ gI σ da 17 ∧ gI σ da 17 ≤ 4 * cn rm σ) (_ : PgI jx da σ dp ex) (_ : 0 ≤ dp (gI σ da 17) ∧ dp (gI σ da 17) ≤ 3 * gI σ rm 19 + 0) (_ : ∀ pc, gI σ da 17 ≤ pc → ¬ ex pc) (_ : 7 * (11 - gI σ rm 19) - 1 ≤ (n : Int)) {Q : Sg → Unit → Prop} {X : Sg → String → Prop} (_ : ∀ (σ' : Sg) (r : Unit), Rg ra jx rm σ' → FdO ra jx rm da o [15, 16] [4, 5, 7, 8, 9, 10, 11, 12, 13, 19] [15, 16] σ σ' → ((∃ dq : Int → Int, (∀ pc, pc ≤ gI σ da 17 → dq pc = dp pc) ∧ PgI jx da σ' dq ex ∧ dq (gI σ' da 17) = dp (gI σ da 17) + 1) ∧ PsI rm σ' ∧ gI σ' da 17 - 4 * cn rm σ' ≤ gI σ da 17 - 4 * cn rm σ ∧ gI σ' rm 19 = gI σ rm 19 ∧ gI σ da 17 < gI σ' da 17 ∧ (∀ k, k ≠ 17 → gI σ' da k = gI σ da k)) → Q σ' r) (_ : ∀ (σ' : Sg) (E : String), Rg ra jx rm σ' → FdO ra jx rm da o [15, 16] [4, 5, 7, 8, 9, 10, 11, 12, 13, 19] [15, 16] σ σ' → (E = "StreamHouseModel$Fault") → X σ' E), wrec ra jx rm n 1 v1 σ Q X) (ih2 : ∀ {da : Nat} {o : Int} {dp : Int → Int} {ex : Int → Prop} (_ : Geo ra jx rm) {σ : Sg} {v1 : Int} (_ : Rg ra jx rm σ) (_ : PsI rm σ) (_ : gP σ rm 18 = some da) (_ : da = ra 15 ∨ da = ra 16) (_ : 0 ≤ v1 ∧ v1 < 16) (_ : 0 ≤ gI σ da 17 ∧ gI σ da 17 ≤ 4 * cn rm σ) (_ : PgI jx da σ dp ex) (_ : 0 ≤ dp (gI σ da 17) ∧ dp (gI σ da 17) ≤ 3 * gI σ rm 19 + 0) (_ : ∀ pc, gI σ da 17 ≤ pc → ¬ ex pc) (_ : 7 * (11 - gI σ rm 19) - 2 ≤ (n : Int)) {Q : Sg → Unit → Prop} {X : Sg → String → Prop} (_ : ∀ (σ' : Sg) (r : Unit), Rg ra jx rm σ' → FdO ra jx rm da o [15, 16] [4, 5, 7, 8, 9, 10, 11, 12, 13, 19] [15, 16] σ σ' → ((∃ dq : Int → Int, (∀ pc, pc ≤ gI σ da 17 → dq pc = dp pc) ∧ PgI jx da σ' dq ex ∧ dq (gI σ' da 17) = dp (gI σ da 17) + 1) ∧ PsI rm σ' ∧ gI σ' da 17 - 4 * cn rm σ' ≤ gI σ da 17 - 4 * cn rm σ ∧ gI σ' rm 19 = gI σ rm 19 ∧ gI σ da 17 < gI σ' da 17 ∧ (∀ k, k ≠ 17 → gI σ' da k = gI σ da k)) → Q σ' r) (_ : ∀ (σ' : Sg) (E : String), Rg ra jx rm σ' → FdO ra jx rm da o [15, 16] [4, 5, 7, 8, 9, 10, 11, 12, 13, 19] [15, 16] σ σ' → (E = "StreamHouseModel$Fault") → X σ' E), wrec ra jx rm n 2 v1 σ Q X) (ih3 : ∀ {da : Nat} {o : Int} {dp : Int → Int} {ex : Int → Prop} (_ : Geo ra jx rm) {σ : Sg} {v1 : Int} (_ : Rg ra jx rm σ) (_ : PsI rm σ) (_ : gP σ rm 18 = some da) (_ : da = ra 15 ∨ da = ra 16) (_ : 0 ≤ v1 ∧ v1 < 16) (_ : 0 ≤ gI σ da 17 ∧ gI σ da 17 ≤ 4 * cn rm σ) (_ : PgI jx da σ dp ex) (_ : 0 ≤ dp (gI σ da 17) ∧ dp (gI σ da 17) ≤ 3 * gI σ rm 19 + 0) (_ : ∀ pc, gI σ da 17 ≤ pc → ¬ ex pc) (_ : 7 * (11 - gI σ rm 19) - 3 ≤ (n : Int)) {Q : Sg → Unit → Prop} {X : Sg → String → Prop} (_ : ∀ (σ' : Sg) (r : Unit), Rg ra jx rm σ' → FdO ra jx rm da o [15, 16] [4, 5, 7, 8, 9, 10, 11, 12, 13, 19] [15, 16] σ σ' → ((∃ dq : Int → Int, (∀ pc, pc ≤ gI σ da 17 → dq pc = dp pc) ∧ PgI jx da σ' dq ex ∧ dq (gI σ' da 17) = dp (gI σ da 17) + 1) ∧ PsI rm σ' ∧ gI σ' da 17 - 4 * cn rm σ' ≤ gI σ da 17 - 4 * cn rm σ ∧ gI σ' rm 19 = gI σ rm 19 ∧ gI σ da 17 < gI σ' da 17 ∧ (∀ k, k ≠ 17 → gI σ' da k = gI σ da k)) → Q σ' r) (_ : ∀ (σ' : Sg) (E : String), Rg ra jx rm σ' → FdO ra jx rm da o [15, 16] [4, 5, 7, 8, 9, 10, 11, 12, 13, 19] [15, 16] σ σ' → (E = "StreamHouseModel$Fault") → X σ' E), wrec ra jx rm n 3 v1 σ Q X) (ih4 : ∀ {da : Nat} {o : Int} {dp : Int → Int} {ex : Int → Prop} (_ : Geo ra jx rm) {σ : Sg} {v1 : Int} (_ : Rg ra jx rm σ) (_ : PsI rm σ) (_ : gP σ rm 18 = some da) (_ : da = ra 15 ∨ da = ra 16) (_ : 0 ≤ v1 ∧ v1 < 16) (_ : 0 ≤ gI σ da 17 ∧ gI σ da 17 ≤ 4 * cn rm σ) (_ : PgI jx da σ dp ex) (_ : 0 ≤ dp (gI σ da 17) ∧ dp (gI σ da 17) ≤ 3 * gI σ rm 19 + 1) (_ : ∀ pc, gI σ da 17 ≤ pc → ¬ ex pc) (_ : 7 * (11 - gI σ rm 19) - 4 ≤ (n : Int)) {Q : Sg → Unit → Prop} {X : Sg → String → Prop} (_ : ∀ (σ' : Sg) (r : Unit), Rg ra jx rm σ' → FdO ra jx rm da o [15, 16] [4, 5, 7, 8, 9, 10, 11, 12, 13, 19] [15, 16] σ σ' → ((∃ dq : Int → Int, (∀ pc, pc ≤ gI σ da 17 → dq pc = dp pc) ∧ PgI jx da σ' dq ex ∧ dq (gI σ' da 17) = dp (gI σ da 17) + 1) ∧ PsI rm σ' ∧ gI σ' da 17 - 4 * cn rm σ' ≤ gI σ da 17 - 4 * cn rm σ ∧ gI σ' rm 19 = gI σ rm 19 ∧ gI σ da 17 < gI σ' da 17 ∧ (∀ k, k ≠ 17 → gI σ' da k = gI σ da k)) → Q σ' r) (_ : ∀ (σ' : Sg) (E : String), Rg ra jx rm σ' → FdO ra jx rm da o [15, 16] [4, 5, 7, 8, 9, 10, 11, 12, 13, 19] [15, 16] σ σ' → (E = "StreamHouseModel$Fault") → X σ' E), wrec ra jx rm n 4 v1 σ Q X) (ih5 : ∀ {da : Nat} {o : Int} {dp : Int → Int} {ex : Int → Prop} (_ : Geo ra jx rm) {σ : Sg} {v1 : Int} (_ : Rg ra jx rm σ) (_ : PsI rm σ) (_ : gP σ rm 18 = some da) (_ : da = ra 15 ∨ da = ra 16) (_ : 0 ≤ v1 ∧ v1 < 16) (_ : 0 ≤ gI σ da 17 ∧ gI σ da 17 ≤ 4 * cn rm σ) (_ : PgI jx da σ dp ex) (_ : 0 ≤ dp (gI σ da 17) ∧ dp (gI σ da 17) ≤ 3 * gI σ rm 19 + 2) (_ : ∀ pc, gI σ da 17 ≤ pc → ¬ ex pc) (_ : 7 * (11 - gI σ rm 19) - 5 ≤ (n : Int)) {Q : Sg → Unit → Prop} {X : Sg → String → Prop} (_ : ∀ (σ' : Sg) (r : Unit), Rg ra jx rm σ' → FdO ra jx rm da o [15, 16] [4, 5, 7, 8, 9, 10, 11, 12, 13, 19] [15, 16] σ σ' → ((∃ dq : Int → Int, (∀ pc, pc ≤ gI σ da 17 → dq pc = dp pc) ∧ PgI jx da σ' dq ex ∧ dq (gI σ' da 17) = dp (gI σ da 17) + 1) ∧ PsI rm σ' ∧ gI σ' da 17 - 4 * cn rm σ' ≤ gI σ da 17 - 4 * cn rm σ ∧ gI σ' rm 19 = gI σ rm 19 ∧ gI σ da 17 < gI σ' da 17 ∧ (∀ k, k ≠ 17 → gI σ' da k = gI σ da k)) → Q σ' r) (_ : ∀ (σ' : Sg) (E : String), Rg ra jx rm σ' → FdO ra jx rm da o [15, 16] [4, 5, 7, 8, 9, 10, 11, 12, 13, 19] [15, 16] σ σ' → (E = "StreamHouseModel$Fault") → X σ' E), wrec ra jx rm n 5 v1 σ Q X) (ih6 : ∀ {da : Nat} {o : Int} {dp : Int → Int} {ex : Int → Prop} (_ : Geo ra jx rm) {σ : Sg} {v1 : Int} (_ : Rg ra jx rm σ) (_ : PsI rm σ) (_ : gP σ rm 18 = some da) (_ : da = ra 15 ∨ da = ra 16) (_ : 0 ≤ v1 ∧ v1 < 16) (_ : 0 ≤ gI σ da 17 ∧ gI σ da 17 ≤ 4 * cn rm σ) (_ : PgI jx da σ dp ex) (_ : 0 ≤ dp (gI σ da 17) ∧ dp (gI σ da 17) ≤ 3 * gI σ rm 19 + 3) (_ : ∀ pc, gI σ da 17 ≤ pc → ¬ ex pc) (_ : 7 * (11 - gI σ rm 19) - 6 ≤ (n : Int)) {Q : Sg → Unit → Prop} {X : Sg → String → Prop} (_ : ∀ (σ' : Sg) (r : Unit), Rg ra jx rm σ' → FdO ra jx rm da o [15, 16] [4, 5, 7, 8, 9, 10, 11, 12, 13, 19] [15, 16] σ σ' → ((∃ dq : Int → Int, (∀ pc, pc ≤ gI σ da 17 → dq pc = dp pc) ∧ PgI jx da σ' dq ex ∧ dq (gI σ' da 17) = dp (gI σ da 17) + 1) ∧ PsI rm σ' ∧ gI σ' da 17 - 4 * cn rm σ' ≤ gI σ da 17 - 4 * cn rm σ ∧ gI σ' rm 19 = gI σ rm 19 ∧ gI σ da 17 < gI σ' da 17 ∧ (∀ k, k ≠ 17 → gI σ' da k = gI σ da k)) → Q σ' r) (_ : ∀ (σ' : Sg) (E : String), Rg ra jx rm σ' → FdO ra jx rm da o [15, 16] [4, 5, 7, 8, 9, 10, 11, 12, 13, 19] [15, 16] σ σ' → (E = "StreamHouseModel$Fault") → X σ' E), wrec ra jx rm n 6 v1 σ Q X) {Q : Sg → Unit → Prop} {X : Sg → String → Prop} (hQ : ∀ (σ' : Sg) (r : Unit), Rg ra jx rm σ' → FdO ra jx rm da o [15, 16] [4, 5, 7, 8, 9, 10, 11, 12, 13, 19] [15, 16] σ σ' → ((∃ dq : Int → Int, (∀ pc, pc ≤ gI σ da 17 → dq pc = dp pc) ∧ PgI jx da σ' dq ex ∧ dq (gI σ' da 17) = dp (gI σ da 17) + 1) ∧ PsI rm σ' ∧ gI σ' da 17 - 4 * cn rm σ' ≤ gI σ da 17 - 4 * cn rm σ ∧ gI σ' rm 19 = gI σ rm 19 ∧ gI σ da 17 < gI σ' da 17 ∧ (∀ k, k ≠ 17 → gI σ' da k = gI σ da k)) → Q σ' r) (hX : ∀ (σ' : Sg) (E : String), Rg ra jx rm σ' → FdO ra jx rm da o [15, 16] [4, 5, 7, 8, 9, 10, 11, 12, 13, 19] [15, 16] σ σ' → (E = "StreamHouseModel$Fault") → X σ' E) : w_X16_product_0 ra jx rm (wrec ra jx rm n) Q X σ v1 := by
  obtain ⟨g1, g2, g3, g4, g5, g6, g7, g8⟩ := id g
  have fσ : FdO ra jx rm da o [15, 16] [4, 5, 7, 8, 9, 10, 11, 12, 13, 19] [15, 16] σ σ := FdO.rf
  have hdm : ¬ da = rm := by rcases hda with q | q <;> rw [q] <;> exact g2 _
  have hmd : ¬ rm = da := fun q => hdm q.symm
  have hdj : ∀ a k, ¬ da = jx a k := fun a k => by rcases hda with q | q <;> rw [q] <;> exact g5 a k _
  have hjd : ∀ a k, ¬ jx a k = da := fun a k => by rcases hda with q | q <;> rw [q] <;> exact g4 a k _
  have q06 := rσ.2.1 6; simp only [rgS] at q06
  have q19 := rσ.2.1 19; simp only [rgS] at q19
  have ps9 := hps; have pg9 := hpg
  have okk : ∀ k, k ≠ 17 → gI σ da k = gI σ da k := fun _ _ => rfl
  have le6 := PsI.le hps
  unfold w_X16_product_0
  try simp only [forall_eq, rII, rIJ, rIP, rJJ, rJI, rJP, rPP, rPI, rPJ, g1, g2, g3, g4, g5, g6, g7, g8, Nat.reduceEqDiff, Nat.reduceAdd, false_and, and_false, true_and, and_true, reduceIte, nZ0, nZ1, hdm, hmd, hdj, hjd]
  refine ih6 (o := o) (dp := dp) (ex := ex) g rσ (by exact ps9) (by (try simp only [rII, rIJ, rIP, rJJ, rJI, rJP, rPP, rPI, rPJ, g1, g2, g3, g4, g5, g6, g7, g8, Nat.reduceEqDiff, Nat.reduceAdd, false_and, and_false, true_and, and_true, reduceIte, nZ0, nZ1, hdm, hmd, hdj, hjd]) <;> first | exact hd | (rw [fσ.2.2.2.1 (by decide)]; exact hd)) hda h1 (by (try simp only [rII, rIJ, rIP, rJJ, rJI, rJP, rPP, rPI, rPJ, g1, g2, g3, g4, g5, g6, g7, g8, Nat.reduceEqDiff, Nat.reduceAdd, false_and, and_false, true_and, and_true, reduceIte, nZ0, nZ1, hdm, hmd, hdj, hjd]) <;> omega) (by exact pg9) (by (try simp only [rII, rIJ, rIP, rJJ, rJI, rJP, rPP, rPI, rPJ, g1, g2, g3, g4, g5, g6, g7, g8, Nat.reduceEqDiff, Nat.reduceAdd, false_and, and_false, true_and, and_true, reduceIte, nZ0, nZ1, hdm, hmd, hdj, hjd]) <;> omega) (by (try simp only [rII, rIJ, rIP, rJJ, rJI, rJP, rPP, rPI, rPJ, g1, g2, g3, g4, g5, g6, g7, g8, Nat.reduceEqDiff, Nat.reduceAdd, false_and, and_false, true_and, and_true, reduceIte, nZ0, nZ1, hdm, hmd, hdj, hjd]) <;> exact fun pc hp => hex pc (by omega)) (by (try simp only [rII, rIJ, rIP, rJJ, rJI, rJP, rPP, rPI, rPJ, g1, g2, g3, g4, g5, g6, g7, g8, Nat.reduceEqDiff, Nat.reduceAdd, false_and, and_false, true_and, and_true, reduceIte, nZ0, nZ1, hdm, hmd, hdj, hjd]) <;> omega) (fun σ17 _ rσ17 fc p1 => ?_) (fun σx E rx fx px => hX _ _ rx (FdO.tr fσ (FdO.mor (fx) (by decide) (by decide) (by decide))) px)
  have fσ17 : FdO ra jx rm da o [15, 16] [4, 5, 7, 8, 9, 10, 11, 12, 13, 19] [15, 16] σ σ17 := FdO.tr fσ (FdO.mor (fc) (by decide) (by decide) (by decide))
  obtain ⟨⟨dq9, ag9, pg9, de9⟩, ps9, cq9, n19, nl9, ok9⟩ := p1
  have okk : ∀ k, k ≠ 17 → gI σ17 da k = gI σ da k := fun k hk => (ok9 k hk).trans (by (try simp only [rII, rIJ, rIP, rJJ, rJI, rJP, rPP, rPI, rPJ, g1, g2, g3, g4, g5, g6, g7, g8, Nat.reduceEqDiff, Nat.reduceAdd, false_and, and_false, true_and, and_true, reduceIte, nZ0, nZ1, hdm, hmd, hdj, hjd]) <;> exact okk k hk)
  (try simp only [rII, rIJ, rIP, rJJ, rJI, rJP, rPP, rPI, rPJ, g1, g2, g3, g4, g5, g6, g7, g8, Nat.reduceEqDiff, Nat.reduceAdd, false_and, and_false, true_and, and_true, reduceIte, nZ0, nZ1, hdm, hmd, hdj, hjd] at cq9 n19 nl9 ag9 de9)
  have eo9 : gI σ da 17 = gI σ da 17 := by omega
  (try rw [eo9] at de9)
  have ag9 : ∀ pc, pc ≤ gI σ da 17 → dq9 pc = dp pc := fun pc hp => ag9 pc (by omega)
  have le6 := PsI.le ps9
  have s6n := (fσ17.2.1 6 (by decide)).1
  have sσ17_6 := fσ17.2.1 6 (by decide)
  have pσ17 := fσ17.2.2.2.1 (by decide)
  try simp only [rII, rIJ, rIP, rJJ, rJI, rJP, rPP, rPI, rPJ, g1, g2, g3, g4, g5, g6, g7, g8, Nat.reduceEqDiff, Nat.reduceAdd, false_and, and_false, true_and, and_true, reduceIte, nZ0, nZ1, hdm, hmd, hdj, hjd, sσ17_6.1, sσ17_6.2, pσ17] at p1
  try simp only [forall_eq, rII, rIJ, rIP, rJJ, rJI, rJP, rPP, rPI, rPJ, g1, g2, g3, g4, g5, g6, g7, g8, Nat.reduceEqDiff, Nat.reduceAdd, false_and, and_false, true_and, and_true, reduceIte, nZ0, nZ1, hdm, hmd, hdj, hjd, sσ17_6.1, sσ17_6.2, pσ17]
  refine s2_X16_see g rσ17 (by exact ps9) (fun σ18 _ rσ18 fc p2 => ?_) (fun σx E rx fx px => hX _ _ rx (FdO.tr fσ17 (FdO.mor (Fr.d fx hda (by decide)) (by decide) (by decide) (by decide))) px)
  have fσ18 : FdO ra jx rm da o [15, 16] [4, 5, 7, 8, 9, 10, 11, 12, 13, 19] [15, 16] σ σ18 := FdO.tr fσ17 (FdO.mor (Fr.d fc hda (by decide)) (by decide) (by decide) (by decide))
  have cσ18_19 := fc.2.1 19 (by decide)
  have ps9 := p2.1; have cq9 := p2.2
  have pg9 := PgI.fr pg9 hda fc (by decide)
  have n17 := congrFun (Fr.ob fc hda (by decide)) 17
  (try simp only [rII, rIJ, rIP, rJJ, rJI, rJP, rPP, rPI, rPJ, g1, g2, g3, g4, g5, g6, g7, g8, Nat.reduceEqDiff, Nat.reduceAdd, false_and, and_false, true_and, and_true, reduceIte, nZ0, nZ1, hdm, hmd, hdj, hjd, sσ17_6.1, sσ17_6.2, pσ17] at n17)
  have okk : ∀ k, k ≠ 17 → gI σ18 da k = gI σ da k := fun k hk => (congrFun (Fr.ob fc hda (by decide)) k).trans (by (try simp only [rII, rIJ, rIP, rJJ, rJI, rJP, rPP, rPI, rPJ, g1, g2, g3, g4, g5, g6, g7, g8, Nat.reduceEqDiff, Nat.reduceAdd, false_and, and_false, true_and, and_true, reduceIte, nZ0, nZ1, hdm, hmd, hdj, hjd, sσ17_6.1, sσ17_6.2, pσ17]) <;> exact okk k hk)
  have n19 := (fc.2.1 19 (by decide)).1
  (try simp only [rII, rIJ, rIP, rJJ, rJI, rJP, rPP, rPI, rPJ, g1, g2, g3, g4, g5, g6, g7, g8, Nat.reduceEqDiff, Nat.reduceAdd, false_and, and_false, true_and, and_true, reduceIte, nZ0, nZ1, hdm, hmd, hdj, hjd, sσ17_6.1, sσ17_6.2, pσ17] at n19)
  have le6 := PsI.le ps9
  have s6n := (fσ18.2.1 6 (by decide)).1
  have ded : dq9 (gI σ18 da 17) = dp (gI σ da 17) + 1 := by rw [n17]; exact de9
  have de9 := ded
  have sσ18_6 := fσ18.2.1 6 (by decide)
  have pσ18 := fσ18.2.2.2.1 (by decide)
  try simp only [rII, rIJ, rIP, rJJ, rJI, rJP, rPP, rPI, rPJ, g1, g2, g3, g4, g5, g6, g7, g8, Nat.reduceEqDiff, Nat.reduceAdd, false_and, and_false, true_and, and_true, reduceIte, nZ0, nZ1, hdm, hmd, hdj, hjd, sσ18_6.1, sσ18_6.2, pσ18, cσ18_19.1, cσ18_19.2] at p2
  try simp only [forall_eq, rII, rIJ, rIP, rJJ, rJI, rJP, rPP, rPI, rPJ, g1, g2, g3, g4, g5, g6, g7, g8, Nat.reduceEqDiff, Nat.reduceAdd, false_and, and_false, true_and, and_true, reduceIte, nZ0, nZ1, hdm, hmd, hdj, hjd, sσ18_6.1, sσ18_6.2, pσ18, cσ18_19.1, cσ18_19.2]
  have q4 := rσ.2.1 19; simp only [rgS, hdm, hmd, hdj, hjd] at q4
  have q6 := rσ.2.1 6; simp only [rgS, hdm, hmd, hdj, hjd] at q6
  have L9 : ∀ (fu9 : Nat) (τ9 : Sg), Rg ra jx rm τ9 → FdO ra jx rm da o [15, 16] [4, 5, 7, 8, 9, 10, 11, 12, 13, 19] [15, 16] σ τ9 → ((∃ dq : Int → Int, (∀ pc, pc ≤ gI σ da 17 → dq pc = dp pc) ∧ PgI jx da τ9 dq ex ∧ dq (gI τ9 da 17) = dp (gI σ da 17) + 1) ∧ (PsI rm τ9 ∧ gI τ9 rm 8 = 1) ∧ (gI τ9 da 17 - 4 * cn rm τ9 ≤ gI σ da 17 - 4 * cn rm σ ∧ gI τ9 rm 19 = gI σ rm 19 ∧ gI σ da 17 < gI τ9 da 17) ∧ (∀ k, k ≠ 17 → gI τ9 da k = gI σ da k)) → ((gI σ rm 6 - cn rm τ9).toNat) < fu9 → wl_X16_product_9 ra jx rm (wrec ra jx rm n) Q X fu9 τ9 v1 := by
    intro fu9
    induction fu9 with
    | zero => intro τ9 _ _ _ h9; omega
    | succ fu9 ih9 =>
      intro τ9 rτ9 fτ9 hi9 hm9
      unfold wl_X16_product_9
      have sτ9_6 := fτ9.2.1 6 (by decide)
      have pτ9 := fτ9.2.2.2.1 (by decide)
      unfold w_X16_product_9
      try simp only [forall_eq, rII, rIJ, rIP, rJJ, rJI, rJP, rPP, rPI, rPJ, g1, g2, g3, g4, g5, g6, g7, g8, Nat.reduceEqDiff, Nat.reduceAdd, false_and, and_false, true_and, and_true, reduceIte, nZ0, nZ1, hdm, hmd, hdj, hjd, sτ9_6.1, sτ9_6.2, pτ9]
      obtain ⟨⟨dq9, ag9, pg9, de9⟩, ⟨ps9, s8⟩, ⟨i1, i2, i3⟩, okk⟩ := hi9
      have le6 := PsI.le ps9
      have s6n := (fτ9.2.1 6 (by decide)).1
      have q7 := rτ9.2.1 9; simp only [rgS, hdm, hmd, hdj, hjd] at q7
      split
      · rename_i hc15
        skip
        unfold w_X16_product_36
        try simp only [forall_eq, rII, rIJ, rIP, rJJ, rJI, rJP, rPP, rPI, rPJ, g1, g2, g3, g4, g5, g6, g7, g8, Nat.reduceEqDiff, Nat.reduceAdd, false_and, and_false, true_and, and_true, reduceIte, nZ0, nZ1, hdm, hmd, hdj, hjd, sτ9_6.1, sτ9_6.2, pτ9]
        rw [if_neg (show ¬ ((gI τ9 rm 9) ≠ 42) by omega)]
        unfold w_X16_product_45
        try simp only [forall_eq, rII, rIJ, rIP, rJJ, rJI, rJP, rPP, rPI, rPJ, g1, g2, g3, g4, g5, g6, g7, g8, Nat.reduceEqDiff, Nat.reduceAdd, false_and, and_false, true_and, and_true, reduceIte, nZ0, nZ1, hdm, hmd, hdj, hjd, sτ9_6.1, sτ9_6.2, pτ9]
        unfold w_X16_product_65
        try simp only [forall_eq, rII, rIJ, rIP, rJJ, rJI, rJP, rPP, rPI, rPJ, g1, g2, g3, g4, g5, g6, g7, g8, Nat.reduceEqDiff, Nat.reduceAdd, false_and, and_false, true_and, and_true, reduceIte, nZ0, nZ1, hdm, hmd, hdj, hjd, sτ9_6.1, sτ9_6.2, pτ9]
        refine s2_X16_take g rτ9 (by exact ps9) (by omega) (by omega) (fun σ19 _ rσ19 fc p8 => ?_)
        have fσ19 : FdO ra jx rm da o [15, 16] [4, 5, 7, 8, 9, 10, 11, 12, 13, 19] [15, 16] σ σ19 := FdO.tr fτ9 (FdO.mor (Fr.d fc hda (by decide)) (by decide) (by decide) (by decide))
        have cσ19_9 := fc.2.1 9 (by decide)
        have cσ19_19 := fc.2.1 19 (by decide)
        have ps9 := p8.1; have cq9 := p8.2
        have pg9 := PgI.fr pg9 hda fc (by decide)
        have n17 := congrFun (Fr.ob fc hda (by decide)) 17
        (try simp only [rII, rIJ, rIP, rJJ, rJI, rJP, rPP, rPI, rPJ, g1, g2, g3, g4, g5, g6, g7, g8, Nat.reduceEqDiff, Nat.reduceAdd, false_and, and_false, true_and, and_true, reduceIte, nZ0, nZ1, hdm, hmd, hdj, hjd, sτ9_6.1, sτ9_6.2, pτ9] at n17)
        have okk : ∀ k, k ≠ 17 → gI σ19 da k = gI σ da k := fun k hk => (congrFun (Fr.ob fc hda (by decide)) k).trans (by (try simp only [rII, rIJ, rIP, rJJ, rJI, rJP, rPP, rPI, rPJ, g1, g2, g3, g4, g5, g6, g7, g8, Nat.reduceEqDiff, Nat.reduceAdd, false_and, and_false, true_and, and_true, reduceIte, nZ0, nZ1, hdm, hmd, hdj, hjd, sτ9_6.1, sτ9_6.2, pτ9]) <;> exact okk k hk)
        have n19 := (fc.2.1 19 (by decide)).1
        have le6 := PsI.le ps9
        have s6n := (fσ19.2.1 6 (by decide)).1
        have ded : dq9 (gI σ19 da 17) = dp (gI σ da 17) + 1 := by rw [n17]; exact de9
        have de9 := ded
        have sσ19_6 := fσ19.2.1 6 (by decide)
        have pσ19 := fσ19.2.2.2.1 (by decide)
        try simp only [rII, rIJ, rIP, rJJ, rJI, rJP, rPP, rPI, rPJ, g1, g2, g3, g4, g5, g6, g7, g8, Nat.reduceEqDiff, Nat.reduceAdd, false_and, and_false, true_and, and_true, reduceIte, nZ0, nZ1, hdm, hmd, hdj, hjd, sσ19_6.1, sσ19_6.2, pσ19, cσ19_9.1, cσ19_9.2, cσ19_19.1, cσ19_19.2] at p8
        try simp only [forall_eq, rII, rIJ, rIP, rJJ, rJI, rJP, rPP, rPI, rPJ, g1, g2, g3, g4, g5, g6, g7, g8, Nat.reduceEqDiff, Nat.reduceAdd, false_and, and_false, true_and, and_true, reduceIte, nZ0, nZ1, hdm, hmd, hdj, hjd, sσ19_6.1, sσ19_6.2, pσ19, cσ19_9.1, cσ19_9.2, cσ19_19.1, cσ19_19.2]
        refine ih6 (o := o) (dp := dq9) (ex := ex) g rσ19 (by exact ps9) (by (try simp only [rII, rIJ, rIP, rJJ, rJI, rJP, rPP, rPI, rPJ, g1, g2, g3, g4, g5, g6, g7, g8, Nat.reduceEqDiff, Nat.reduceAdd, false_and, and_false, true_and, and_true, reduceIte, nZ0, nZ1, hdm, hmd, hdj, hjd, sσ19_6.1, sσ19_6.2, pσ19, cσ19_9.1, cσ19_9.2, cσ19_19.1, cσ19_19.2]) <;> first | exact hd | (rw [fσ19.2.2.2.1 (by decide)]; exact hd)) hda h1 (by (try simp only [rII, rIJ, rIP, rJJ, rJI, rJP, rPP, rPI, rPJ, g1, g2, g3, g4, g5, g6, g7, g8, Nat.reduceEqDiff, Nat.reduceAdd, false_and, and_false, true_and, and_true, reduceIte, nZ0, nZ1, hdm, hmd, hdj, hjd, sσ19_6.1, sσ19_6.2, pσ19, cσ19_9.1, cσ19_9.2, cσ19_19.1, cσ19_19.2]) <;> omega) (by exact pg9) (by (try simp only [rII, rIJ, rIP, rJJ, rJI, rJP, rPP, rPI, rPJ, g1, g2, g3, g4, g5, g6, g7, g8, Nat.reduceEqDiff, Nat.reduceAdd, false_and, and_false, true_and, and_true, reduceIte, nZ0, nZ1, hdm, hmd, hdj, hjd, sσ19_6.1, sσ19_6.2, pσ19, cσ19_9.1, cσ19_9.2, cσ19_19.1, cσ19_19.2]) <;> omega) (by (try simp only [rII, rIJ, rIP, rJJ, rJI, rJP, rPP, rPI, rPJ, g1, g2, g3, g4, g5, g6, g7, g8, Nat.reduceEqDiff, Nat.reduceAdd, false_and, and_false, true_and, and_true, reduceIte, nZ0, nZ1, hdm, hmd, hdj, hjd, sσ19_6.1, sσ19_6.2, pσ19, cσ19_9.1, cσ19_9.2, cσ19_19.1, cσ19_19.2]) <;> exact fun pc hp => hex pc (by omega)) (by (try simp only [rII, rIJ, rIP, rJJ, rJI, rJP, rPP, rPI, rPJ, g1, g2, g3, g4, g5, g6, g7, g8, Nat.reduceEqDiff, Nat.reduceAdd, false_and, and_false, true_and, and_true, reduceIte, nZ0, nZ1, hdm, hmd, hdj, hjd, sσ19_6.1, sσ19_6.2, pσ19, cσ19_9.1, cσ19_9.2, cσ19_19.1, cσ19_19.2]) <;> omega) (fun σ20 _ rσ20 fc p9 => ?_) (fun σx E rx fx px => hX _ _ rx (FdO.tr fσ19 (FdO.mor (fx) (by decide) (by decide) (by decide))) px)
        have fσ20 : FdO ra jx rm da o [15, 16] [4, 5, 7, 8, 9, 10, 11, 12, 13, 19] [15, 16] σ σ20 := FdO.tr fσ19 (FdO.mor (fc) (by decide) (by decide) (by decide))
        have ag7 := ag9; have de7 := de9
        obtain ⟨⟨dq8, ag8, pg9, de8⟩, ps9, cq9, n19, nl9, ok9⟩ := p9
        have okk : ∀ k, k ≠ 17 → gI σ20 da k = gI σ da k := fun k hk => (ok9 k hk).trans (okk k hk)
        (try simp only [rII, rIJ, rIP, rJJ, rJI, rJP, rPP, rPI, rPJ, g1, g2, g3, g4, g5, g6, g7, g8, Nat.reduceEqDiff, Nat.reduceAdd, false_and, and_false, true_and, and_true, reduceIte, nZ0, nZ1, hdm, hmd, hdj, hjd, sσ19_6.1, sσ19_6.2, pσ19, cσ19_9.1, cσ19_9.2, cσ19_19.1, cσ19_19.2] at cq9 n19 nl9 ag8 de8)
        have ag9 : ∀ pc, pc ≤ gI σ da 17 → dq8 pc = dp pc := fun pc hp => by rw [ag8 pc (by omega)]; exact ag7 pc hp
        have de9 : dq8 (gI σ20 da 17) = dp (gI σ da 17) + 2 := by omega
        have le6 := PsI.le ps9
        have s6n := (fσ20.2.1 6 (by decide)).1
        have sσ20_6 := fσ20.2.1 6 (by decide)
        have pσ20 := fσ20.2.2.2.1 (by decide)
        try simp only [rII, rIJ, rIP, rJJ, rJI, rJP, rPP, rPI, rPJ, g1, g2, g3, g4, g5, g6, g7, g8, Nat.reduceEqDiff, Nat.reduceAdd, false_and, and_false, true_and, and_true, reduceIte, nZ0, nZ1, hdm, hmd, hdj, hjd, sσ20_6.1, sσ20_6.2, pσ20, cσ19_9.1, cσ19_9.2, cσ19_19.1, cσ19_19.2] at p9
        try simp only [forall_eq, rII, rIJ, rIP, rJJ, rJI, rJP, rPP, rPI, rPJ, g1, g2, g3, g4, g5, g6, g7, g8, Nat.reduceEqDiff, Nat.reduceAdd, false_and, and_false, true_and, and_true, reduceIte, nZ0, nZ1, hdm, hmd, hdj, hjd, sσ20_6.1, sσ20_6.2, pσ20, cσ19_9.1, cσ19_9.2, cσ19_19.1, cσ19_19.2]
        refine ⟨da, by exact hd, hda, ?_⟩
        refine s2_X15_step (o := o) g rσ20 hda (by omega) (by omega) (fun σ22 r23 rσ22 fc p10 => ?_)
        have fσ22 : FdO ra jx rm da o [15, 16] [4, 5, 7, 8, 9, 10, 11, 12, 13, 19] [15, 16] σ σ22 := FdO.tr fσ20 (FdO.mor (fc) (by decide) (by decide) (by decide))
        have cσ22_8 := fc.2.1 8 (by decide)
        have cσ22_9 := fc.2.1 9 (by decide)
        have cσ22_19 := fc.2.1 19 (by decide)
        have st0 := p10.1; have st1 := p10.2.1; have st2 := p10.2.2.1; have st3 := p10.2.2.2.1
        have okk : ∀ k, k ≠ 17 → gI σ22 da k = gI σ da k := fun k hk => by rw [p10.2.2.2.2 k hk]; exact okk k hk
        have pf9 := PsI.frj ps9 (FdO.fj fc) (by decide)
        have ps9 := pf9.1; have cq9 := pf9.2
        have n19 := (fc.2.1 19 (by decide)).1
        have le6 := PsI.le ps9
        have s6n := (fσ22.2.1 6 (by decide)).1
        obtain ⟨dq9, ag8, pg9, de8⟩ := PgI.putE (d' := dp (gI σ da 17) + 1) pg9 (by omega) st1 st2 st3 de9 (by omega) (by omega) (Or.inr (Or.inr (Or.inl ⟨by omega, by omega, by omega, by omega⟩)))
        have ag9 : ∀ pc, pc ≤ gI σ da 17 → dq9 pc = dp pc := fun pc hp => (ag8 pc (by omega)).trans (ag9 pc hp)
        have de9 := de8
        have sσ22_6 := fσ22.2.1 6 (by decide)
        have pσ22 := fσ22.2.2.2.1 (by decide)
        try simp only [rII, rIJ, rIP, rJJ, rJI, rJP, rPP, rPI, rPJ, g1, g2, g3, g4, g5, g6, g7, g8, Nat.reduceEqDiff, Nat.reduceAdd, false_and, and_false, true_and, and_true, reduceIte, nZ0, nZ1, hdm, hmd, hdj, hjd, sσ22_6.1, sσ22_6.2, pσ22, cσ19_9.1, cσ19_9.2, cσ19_19.1, cσ19_19.2, cσ22_8.1, cσ22_8.2, cσ22_9.1, cσ22_9.2, cσ22_19.1, cσ22_19.2] at p10
        try simp only [forall_eq, rII, rIJ, rIP, rJJ, rJI, rJP, rPP, rPI, rPJ, g1, g2, g3, g4, g5, g6, g7, g8, Nat.reduceEqDiff, Nat.reduceAdd, false_and, and_false, true_and, and_true, reduceIte, nZ0, nZ1, hdm, hmd, hdj, hjd, sσ22_6.1, sσ22_6.2, pσ22, cσ19_9.1, cσ19_9.2, cσ19_19.1, cσ19_19.2, cσ22_8.1, cσ22_8.2, cσ22_9.1, cσ22_9.2, cσ22_19.1, cσ22_19.2]
        refine s2_X16_see g rσ22 (by exact ps9) (fun σ24 _ rσ24 fc p11 => ?_) (fun σx E rx fx px => hX _ _ rx (FdO.tr fσ22 (FdO.mor (Fr.d fx hda (by decide)) (by decide) (by decide) (by decide))) px)
        have fσ24 : FdO ra jx rm da o [15, 16] [4, 5, 7, 8, 9, 10, 11, 12, 13, 19] [15, 16] σ σ24 := FdO.tr fσ22 (FdO.mor (Fr.d fc hda (by decide)) (by decide) (by decide) (by decide))
        have cσ24_19 := fc.2.1 19 (by decide)
        have ps9 := p11.1; have cq9 := p11.2
        have pg9 := PgI.fr pg9 hda fc (by decide)
        have n17 := congrFun (Fr.ob fc hda (by decide)) 17
        (try simp only [rII, rIJ, rIP, rJJ, rJI, rJP, rPP, rPI, rPJ, g1, g2, g3, g4, g5, g6, g7, g8, Nat.reduceEqDiff, Nat.reduceAdd, false_and, and_false, true_and, and_true, reduceIte, nZ0, nZ1, hdm, hmd, hdj, hjd, sσ22_6.1, sσ22_6.2, pσ22, cσ19_9.1, cσ19_9.2, cσ19_19.1, cσ19_19.2, cσ22_8.1, cσ22_8.2, cσ22_9.1, cσ22_9.2, cσ22_19.1, cσ22_19.2] at n17)
        have okk : ∀ k, k ≠ 17 → gI σ24 da k = gI σ da k := fun k hk => (congrFun (Fr.ob fc hda (by decide)) k).trans (by (try simp only [rII, rIJ, rIP, rJJ, rJI, rJP, rPP, rPI, rPJ, g1, g2, g3, g4, g5, g6, g7, g8, Nat.reduceEqDiff, Nat.reduceAdd, false_and, and_false, true_and, and_true, reduceIte, nZ0, nZ1, hdm, hmd, hdj, hjd, sσ22_6.1, sσ22_6.2, pσ22, cσ19_9.1, cσ19_9.2, cσ19_19.1, cσ19_19.2, cσ22_8.1, cσ22_8.2, cσ22_9.1, cσ22_9.2, cσ22_19.1, cσ22_19.2]) <;> exact okk k hk)
        have n19 := (fc.2.1 19 (by decide)).1
        (try simp only [rII, rIJ, rIP, rJJ, rJI, rJP, rPP, rPI, rPJ, g1, g2, g3, g4, g5, g6, g7, g8, Nat.reduceEqDiff, Nat.reduceAdd, false_and, and_false, true_and, and_true, reduceIte, nZ0, nZ1, hdm, hmd, hdj, hjd, sσ22_6.1, sσ22_6.2, pσ22, cσ19_9.1, cσ19_9.2, cσ19_19.1, cσ19_19.2, cσ22_8.1, cσ22_8.2, cσ22_9.1, cσ22_9.2, cσ22_19.1, cσ22_19.2] at n19)
        have le6 := PsI.le ps9
        have s6n := (fσ24.2.1 6 (by decide)).1
        have ded : dq9 (gI σ24 da 17) = dp (gI σ da 17) + 1 := by rw [n17]; exact de9
        have de9 := ded
        have sσ24_6 := fσ24.2.1 6 (by decide)
        have pσ24 := fσ24.2.2.2.1 (by decide)
        try simp only [rII, rIJ, rIP, rJJ, rJI, rJP, rPP, rPI, rPJ, g1, g2, g3, g4, g5, g6, g7, g8, Nat.reduceEqDiff, Nat.reduceAdd, false_and, and_false, true_and, and_true, reduceIte, nZ0, nZ1, hdm, hmd, hdj, hjd, sσ24_6.1, sσ24_6.2, pσ24, cσ19_9.1, cσ19_9.2, cσ19_19.1, cσ19_19.2, cσ22_8.1, cσ22_8.2, cσ22_9.1, cσ22_9.2, cσ22_19.1, cσ22_19.2, cσ24_19.1, cσ24_19.2] at p11
        try simp only [forall_eq, rII, rIJ, rIP, rJJ, rJI, rJP, rPP, rPI, rPJ, g1, g2, g3, g4, g5, g6, g7, g8, Nat.reduceEqDiff, Nat.reduceAdd, false_and, and_false, true_and, and_true, reduceIte, nZ0, nZ1, hdm, hmd, hdj, hjd, sσ24_6.1, sσ24_6.2, pσ24, cσ19_9.1, cσ19_9.2, cσ19_19.1, cσ19_19.2, cσ22_8.1, cσ22_8.2, cσ22_9.1, cσ22_9.2, cσ22_19.1, cσ22_19.2, cσ24_19.1, cσ24_19.2]
        refine ih9 _ ?_ ?_ ?_ ?_
        · exact rσ24
        · exact fσ24
        · exact ⟨⟨dq9, ag9, pg9, by omega⟩, ⟨ps9, by omega⟩, ⟨by omega, by omega, by omega⟩, okk⟩
        · (try simp only [rII, rIJ, rIP, rJJ, rJI, rJP, rPP, rPI, rPJ, g1, g2, g3, g4, g5, g6, g7, g8, Nat.reduceEqDiff, Nat.reduceAdd, false_and, and_false, true_and, and_true, reduceIte, nZ0, nZ1, hdm, hmd, hdj, hjd, sσ24_6.1, sσ24_6.2, pσ24, cσ19_9.1, cσ19_9.2, cσ19_19.1, cσ19_19.2, cσ22_8.1, cσ22_8.2, cσ22_9.1, cσ22_9.2, cσ22_19.1, cσ22_19.2, cσ24_19.1, cσ24_19.2]) <;> (first | omega | with_reducible assumption | (unfold rng; omega) | (unfold rng; (repeat' split) <;> omega) | decide)
      · rename_i hc15
        skip
        unfold w_X16_product_18
        try simp only [forall_eq, rII, rIJ, rIP, rJJ, rJI, rJP, rPP, rPI, rPJ, g1, g2, g3, g4, g5, g6, g7, g8, Nat.reduceEqDiff, Nat.reduceAdd, false_and, and_false, true_and, and_true, reduceIte, nZ0, nZ1, hdm, hmd, hdj, hjd, sτ9_6.1, sτ9_6.2, pτ9]
        split
        · rename_i hc24
          skip
          unfold w_X16_product_36
          try simp only [forall_eq, rII, rIJ, rIP, rJJ, rJI, rJP, rPP, rPI, rPJ, g1, g2, g3, g4, g5, g6, g7, g8, Nat.reduceEqDiff, Nat.reduceAdd, false_and, and_false, true_and, and_true, reduceIte, nZ0, nZ1, hdm, hmd, hdj, hjd, sτ9_6.1, sτ9_6.2, pτ9]
          rw [if_pos (show ((gI τ9 rm 9) ≠ 42) by omega)]
          unfold w_X16_product_49
          try simp only [forall_eq, rII, rIJ, rIP, rJJ, rJI, rJP, rPP, rPI, rPJ, g1, g2, g3, g4, g5, g6, g7, g8, Nat.reduceEqDiff, Nat.reduceAdd, false_and, and_false, true_and, and_true, reduceIte, nZ0, nZ1, hdm, hmd, hdj, hjd, sτ9_6.1, sτ9_6.2, pτ9]
          rw [if_neg (show ¬ ((gI τ9 rm 9) ≠ 47) by omega)]
          unfold w_X16_product_58
          try simp only [forall_eq, rII, rIJ, rIP, rJJ, rJI, rJP, rPP, rPI, rPJ, g1, g2, g3, g4, g5, g6, g7, g8, Nat.reduceEqDiff, Nat.reduceAdd, false_and, and_false, true_and, and_true, reduceIte, nZ0, nZ1, hdm, hmd, hdj, hjd, sτ9_6.1, sτ9_6.2, pτ9]
          unfold w_X16_product_65
          try simp only [forall_eq, rII, rIJ, rIP, rJJ, rJI, rJP, rPP, rPI, rPJ, g1, g2, g3, g4, g5, g6, g7, g8, Nat.reduceEqDiff, Nat.reduceAdd, false_and, and_false, true_and, and_true, reduceIte, nZ0, nZ1, hdm, hmd, hdj, hjd, sτ9_6.1, sτ9_6.2, pτ9]
          refine s2_X16_take g rτ9 (by exact ps9) (by omega) (by omega) (fun σ25 _ rσ25 fc p12 => ?_)
          have fσ25 : FdO ra jx rm da o [15, 16] [4, 5, 7, 8, 9, 10, 11, 12, 13, 19] [15, 16] σ σ25 := FdO.tr fτ9 (FdO.mor (Fr.d fc hda (by decide)) (by decide) (by decide) (by decide))
          have cσ25_9 := fc.2.1 9 (by decide)
          have cσ25_19 := fc.2.1 19 (by decide)
          have ps9 := p12.1; have cq9 := p12.2
          have pg9 := PgI.fr pg9 hda fc (by decide)
          have n17 := congrFun (Fr.ob fc hda (by decide)) 17
          (try simp only [rII, rIJ, rIP, rJJ, rJI, rJP, rPP, rPI, rPJ, g1, g2, g3, g4, g5, g6, g7, g8, Nat.reduceEqDiff, Nat.reduceAdd, false_and, and_false, true_and, and_true, reduceIte, nZ0, nZ1, hdm, hmd, hdj, hjd, sτ9_6.1, sτ9_6.2, pτ9] at n17)
          have okk : ∀ k, k ≠ 17 → gI σ25 da k = gI σ da k := fun k hk => (congrFun (Fr.ob fc hda (by decide)) k).trans (by (try simp only [rII, rIJ, rIP, rJJ, rJI, rJP, rPP, rPI, rPJ, g1, g2, g3, g4, g5, g6, g7, g8, Nat.reduceEqDiff, Nat.reduceAdd, false_and, and_false, true_and, and_true, reduceIte, nZ0, nZ1, hdm, hmd, hdj, hjd, sτ9_6.1, sτ9_6.2, pτ9]) <;> exact okk k hk)
          have n19 := (fc.2.1 19 (by decide)).1
          have le6 := PsI.le ps9
          have s6n := (fσ25.2.1 6 (by decide)).1
          have ded : dq9 (gI σ25 da 17) = dp (gI σ da 17) + 1 := by rw [n17]; exact de9
          have de9 := ded
          have sσ25_6 := fσ25.2.1 6 (by decide)
          have pσ25 := fσ25.2.2.2.1 (by decide)
          try simp only [rII, rIJ, rIP, rJJ, rJI, rJP, rPP, rPI, rPJ, g1, g2, g3, g4, g5, g6, g7, g8, Nat.reduceEqDiff, Nat.reduceAdd, false_and, and_false, true_and, and_true, reduceIte, nZ0, nZ1, hdm, hmd, hdj, hjd, sσ25_6.1, sσ25_6.2, pσ25, cσ25_9.1, cσ25_9.2, cσ25_19.1, cσ25_19.2] at p12
          try simp only [forall_eq, rII, rIJ, rIP, rJJ, rJI, rJP, rPP, rPI, rPJ, g1, g2, g3, g4, g5, g6, g7, g8, Nat.reduceEqDiff, Nat.reduceAdd, false_and, and_false, true_and, and_true, reduceIte, nZ0, nZ1, hdm, hmd, hdj, hjd, sσ25_6.1, sσ25_6.2, pσ25, cσ25_9.1, cσ25_9.2, cσ25_19.1, cσ25_19.2]
          refine ih6 (o := o) (dp := dq9) (ex := ex) g rσ25 (by exact ps9) (by (try simp only [rII, rIJ, rIP, rJJ, rJI, rJP, rPP, rPI, rPJ, g1, g2, g3, g4, g5, g6, g7, g8, Nat.reduceEqDiff, Nat.reduceAdd, false_and, and_false, true_and, and_true, reduceIte, nZ0, nZ1, hdm, hmd, hdj, hjd, sσ25_6.1, sσ25_6.2, pσ25, cσ25_9.1, cσ25_9.2, cσ25_19.1, cσ25_19.2]) <;> first | exact hd | (rw [fσ25.2.2.2.1 (by decide)]; exact hd)) hda h1 (by (try simp only [rII, rIJ, rIP, rJJ, rJI, rJP, rPP, rPI, rPJ, g1, g2, g3, g4, g5, g6, g7, g8, Nat.reduceEqDiff, Nat.reduceAdd, false_and, and_false, true_and, and_true, reduceIte, nZ0, nZ1, hdm, hmd, hdj, hjd, sσ25_6.1, sσ25_6.2, pσ25, cσ25_9.1, cσ25_9.2, cσ25_19.1, cσ25_19.2]) <;> omega) (by exact pg9) (by (try simp only [rII, rIJ, rIP, rJJ, rJI, rJP, rPP, rPI, rPJ, g1, g2, g3, g4, g5, g6, g7, g8, Nat.reduceEqDiff, Nat.reduceAdd, false_and, and_false, true_and, and_true, reduceIte, nZ0, nZ1, hdm, hmd, hdj, hjd, sσ25_6.1, sσ25_6.2, pσ25, cσ25_9.1, cσ25_9.2, cσ25_19.1, cσ25_19.2]) <;> omega) (by (try simp only [rII, rIJ, rIP, rJJ, rJI, rJP, rPP, rPI, rPJ, g1, g2, g3, g4, g5, g6, g7, g8, Nat.reduceEqDiff, Nat.reduceAdd, false_and, and_false, true_and, and_true, reduceIte, nZ0, nZ1, hdm, hmd, hdj, hjd, sσ25_6.1, sσ25_6.2, pσ25, cσ25_9.1, cσ25_9.2, cσ25_19.1, cσ25_19.2]) <;> exact fun pc hp => hex pc (by omega)) (by (try simp only [rII, rIJ, rIP, rJJ, rJI, rJP, rPP, rPI, rPJ, g1, g2, g3, g4, g5, g6, g7, g8, Nat.reduceEqDiff, Nat.reduceAdd, false_and, and_false, true_and, and_true, reduceIte, nZ0, nZ1, hdm, hmd, hdj, hjd, sσ25_6.1, sσ25_6.2, pσ25, cσ25_9.1, cσ25_9.2, cσ25_19.1, cσ25_19.2]) <;> omega) (fun σ26 _ rσ26 fc p13 => ?_) (fun σx E rx fx px => hX _ _ rx (FdO.tr fσ25 (FdO.mor (fx) (by decide) (by decide) (by decide))) px)
          have fσ26 : FdO ra jx rm da o [15, 16] [4, 5, 7, 8, 9, 10, 11, 12, 13, 19] [15, 16] σ σ26 := FdO.tr fσ25 (FdO.mor (fc) (by decide) (by decide) (by decide))
          have ag7 := ag9; have de7 := de9
          obtain ⟨⟨dq8, ag8, pg9, de8⟩, ps9, cq9, n19, nl9, ok9⟩ := p13
          have okk : ∀ k, k ≠ 17 → gI σ26 da k = gI σ da k := fun k hk => (ok9 k hk).trans (okk k hk)
          (try simp only [rII, rIJ, rIP, rJJ, rJI, rJP, rPP, rPI, rPJ, g1, g2, g3, g4, g5, g6, g7, g8, Nat.reduceEqDiff, Nat.reduceAdd, false_and, and_false, true_and, and_true, reduceIte, nZ0, nZ1, hdm, hmd, hdj, hjd, sσ25_6.1, sσ25_6.2, pσ25, cσ25_9.1, cσ25_9.2, cσ25_19.1, cσ25_19.2] at cq9 n19 nl9 ag8 de8)
          have ag9 : ∀ pc, pc ≤ gI σ da 17 → dq8 pc = dp pc := fun pc hp => by rw [ag8 pc (by omega)]; exact ag7 pc hp
          have de9 : dq8 (gI σ26 da 17) = dp (gI σ da 17) + 2 := by omega
          have le6 := PsI.le ps9
          have s6n := (fσ26.2.1 6 (by decide)).1
          have sσ26_6 := fσ26.2.1 6 (by decide)
          have pσ26 := fσ26.2.2.2.1 (by decide)
          try simp only [rII, rIJ, rIP, rJJ, rJI, rJP, rPP, rPI, rPJ, g1, g2, g3, g4, g5, g6, g7, g8, Nat.reduceEqDiff, Nat.reduceAdd, false_and, and_false, true_and, and_true, reduceIte, nZ0, nZ1, hdm, hmd, hdj, hjd, sσ26_6.1, sσ26_6.2, pσ26, cσ25_9.1, cσ25_9.2, cσ25_19.1, cσ25_19.2] at p13
          try simp only [forall_eq, rII, rIJ, rIP, rJJ, rJI, rJP, rPP, rPI, rPJ, g1, g2, g3, g4, g5, g6, g7, g8, Nat.reduceEqDiff, Nat.reduceAdd, false_and, and_false, true_and, and_true, reduceIte, nZ0, nZ1, hdm, hmd, hdj, hjd, sσ26_6.1, sσ26_6.2, pσ26, cσ25_9.1, cσ25_9.2, cσ25_19.1, cσ25_19.2]
          refine ⟨da, by exact hd, hda, ?_⟩
          refine s2_X15_step (o := o) g rσ26 hda (by omega) (by omega) (fun σ28 r29 rσ28 fc p14 => ?_)
          have fσ28 : FdO ra jx rm da o [15, 16] [4, 5, 7, 8, 9, 10, 11, 12, 13, 19] [15, 16] σ σ28 := FdO.tr fσ26 (FdO.mor (fc) (by decide) (by decide) (by decide))
          have cσ28_8 := fc.2.1 8 (by decide)
          have cσ28_9 := fc.2.1 9 (by decide)
          have cσ28_19 := fc.2.1 19 (by decide)
          have st0 := p14.1; have st1 := p14.2.1; have st2 := p14.2.2.1; have st3 := p14.2.2.2.1
          have okk : ∀ k, k ≠ 17 → gI σ28 da k = gI σ da k := fun k hk => by rw [p14.2.2.2.2 k hk]; exact okk k hk
          have pf9 := PsI.frj ps9 (FdO.fj fc) (by decide)
          have ps9 := pf9.1; have cq9 := pf9.2
          have n19 := (fc.2.1 19 (by decide)).1
          have le6 := PsI.le ps9
          have s6n := (fσ28.2.1 6 (by decide)).1
          obtain ⟨dq9, ag8, pg9, de8⟩ := PgI.putE (d' := dp (gI σ da 17) + 1) pg9 (by omega) st1 st2 st3 de9 (by omega) (by omega) (Or.inr (Or.inr (Or.inl ⟨by omega, by omega, by omega, by omega⟩)))
          have ag9 : ∀ pc, pc ≤ gI σ da 17 → dq9 pc = dp pc := fun pc hp => (ag8 pc (by omega)).trans (ag9 pc hp)
          have de9 := de8
          have sσ28_6 := fσ28.2.1 6 (by decide)
          have pσ28 := fσ28.2.2.2.1 (by decide)
          try simp only [rII, rIJ, rIP, rJJ, rJI, rJP, rPP, rPI, rPJ, g1, g2, g3, g4, g5, g6, g7, g8, Nat.reduceEqDiff, Nat.reduceAdd, false_and, and_false, true_and, and_true, reduceIte, nZ0, nZ1, hdm, hmd, hdj, hjd, sσ28_6.1, sσ28_6.2, pσ28, cσ25_9.1, cσ25_9.2, cσ25_19.1, cσ25_19.2, cσ28_8.1, cσ28_8.2, cσ28_9.1, cσ28_9.2, cσ28_19.1, cσ28_19.2] at p14
          try simp only [forall_eq, rII, rIJ, rIP, rJJ, rJI, rJP, rPP, rPI, rPJ, g1, g2, g3, g4, g5, g6, g7, g8, Nat.reduceEqDiff, Nat.reduceAdd, false_and, and_false, true_and, and_true, reduceIte, nZ0, nZ1, hdm, hmd, hdj, hjd, sσ28_6.1, sσ28_6.2, pσ28, cσ25_9.1, cσ25_9.2, cσ25_19.1, cσ25_19.2, cσ28_8.1, cσ28_8.2, cσ28_9.1, cσ28_9.2, cσ28_19.1, cσ28_19.2]
          refine s2_X16_see g rσ28 (by exact ps9) (fun σ30 _ rσ30 fc p15 => ?_) (fun σx E rx fx px => hX _ _ rx (FdO.tr fσ28 (FdO.mor (Fr.d fx hda (by decide)) (by decide) (by decide) (by decide))) px)
          have fσ30 : FdO ra jx rm da o [15, 16] [4, 5, 7, 8, 9, 10, 11, 12, 13, 19] [15, 16] σ σ30 := FdO.tr fσ28 (FdO.mor (Fr.d fc hda (by decide)) (by decide) (by decide) (by decide))
          have cσ30_19 := fc.2.1 19 (by decide)
          have ps9 := p15.1; have cq9 := p15.2
          have pg9 := PgI.fr pg9 hda fc (by decide)
          have n17 := congrFun (Fr.ob fc hda (by decide)) 17
          (try simp only [rII, rIJ, rIP, rJJ, rJI, rJP, rPP, rPI, rPJ, g1, g2, g3, g4, g5, g6, g7, g8, Nat.reduceEqDiff, Nat.reduceAdd, false_and, and_false, true_and, and_true, reduceIte, nZ0, nZ1, hdm, hmd, hdj, hjd, sσ28_6.1, sσ28_6.2, pσ28, cσ25_9.1, cσ25_9.2, cσ25_19.1, cσ25_19.2, cσ28_8.1, cσ28_8.2, cσ28_9.1, cσ28_9.2, cσ28_19.1, cσ28_19.2] at n17)
          have okk : ∀ k, k ≠ 17 → gI σ30 da k = gI σ da k := fun k hk => (congrFun (Fr.ob fc hda (by decide)) k).trans (by (try simp only [rII, rIJ, rIP, rJJ, rJI, rJP, rPP, rPI, rPJ, g1, g2, g3, g4, g5, g6, g7, g8, Nat.reduceEqDiff, Nat.reduceAdd, false_and, and_false, true_and, and_true, reduceIte, nZ0, nZ1, hdm, hmd, hdj, hjd, sσ28_6.1, sσ28_6.2, pσ28, cσ25_9.1, cσ25_9.2, cσ25_19.1, cσ25_19.2, cσ28_8.1, cσ28_8.2, cσ28_9.1, cσ28_9.2, cσ28_19.1, cσ28_19.2]) <;> exact okk k hk)
          have n19 := (fc.2.1 19 (by decide)).1
          (try simp only [rII, rIJ, rIP, rJJ, rJI, rJP, rPP, rPI, rPJ, g1, g2, g3, g4, g5, g6, g7, g8, Nat.reduceEqDiff, Nat.reduceAdd, false_and, and_false, true_and, and_true, reduceIte, nZ0, nZ1, hdm, hmd, hdj, hjd, sσ28_6.1, sσ28_6.2, pσ28, cσ25_9.1, cσ25_9.2, cσ25_19.1, cσ25_19.2, cσ28_8.1, cσ28_8.2, cσ28_9.1, cσ28_9.2, cσ28_19.1, cσ28_19.2] at n19)
          have le6 := PsI.le ps9
          have s6n := (fσ30.2.1 6 (by decide)).1
          have ded : dq9 (gI σ30 da 17) = dp (gI σ da 17) + 1 := by rw [n17]; exact de9
          have de9 := ded
          have sσ30_6 := fσ30.2.1 6 (by decide)
          have pσ30 := fσ30.2.2.2.1 (by decide)
          try simp only [rII, rIJ, rIP, rJJ, rJI, rJP, rPP, rPI, rPJ, g1, g2, g3, g4, g5, g6, g7, g8, Nat.reduceEqDiff, Nat.reduceAdd, false_and, and_false, true_and, and_true, reduceIte, nZ0, nZ1, hdm, hmd, hdj, hjd, sσ30_6.1, sσ30_6.2, pσ30, cσ25_9.1, cσ25_9.2, cσ25_19.1, cσ25_19.2, cσ28_8.1, cσ28_8.2, cσ28_9.1, cσ28_9.2, cσ28_19.1, cσ28_19.2, cσ30_19.1, cσ30_19.2] at p15
          try simp only [forall_eq, rII, rIJ, rIP, rJJ, rJI, rJP, rPP, rPI, rPJ, g1, g2, g3, g4, g5, g6, g7, g8, Nat.reduceEqDiff, Nat.reduceAdd, false_and, and_false, true_and, and_true, reduceIte, nZ0, nZ1, hdm, hmd, hdj, hjd, sσ30_6.1, sσ30_6.2, pσ30, cσ25_9.1, cσ25_9.2, cσ25_19.1, cσ25_19.2, cσ28_8.1, cσ28_8.2, cσ28_9.1, cσ28_9.2, cσ28_19.1, cσ28_19.2, cσ30_19.1, cσ30_19.2]
          refine ih9 _ ?_ ?_ ?_ ?_
          · exact rσ30
          · exact fσ30
          · exact ⟨⟨dq9, ag9, pg9, by omega⟩, ⟨ps9, by omega⟩, ⟨by omega, by omega, by omega⟩, okk⟩
          · (try simp only [rII, rIJ, rIP, rJJ, rJI, rJP, rPP, rPI, rPJ, g1, g2, g3, g4, g5, g6, g7, g8, Nat.reduceEqDiff, Nat.reduceAdd, false_and, and_false, true_and, and_true, reduceIte, nZ0, nZ1, hdm, hmd, hdj, hjd, sσ30_6.1, sσ30_6.2, pσ30, cσ25_9.1, cσ25_9.2, cσ25_19.1, cσ25_19.2, cσ28_8.1, cσ28_8.2, cσ28_9.1, cσ28_9.2, cσ28_19.1, cσ28_19.2, cσ30_19.1, cσ30_19.2]) <;> (first | omega | with_reducible assumption | (unfold rng; omega) | (unfold rng; (repeat' split) <;> omega) | decide)
        · rename_i hc24
          skip
          unfold w_X16_product_27
          try simp only [forall_eq, rII, rIJ, rIP, rJJ, rJI, rJP, rPP, rPI, rPJ, g1, g2, g3, g4, g5, g6, g7, g8, Nat.reduceEqDiff, Nat.reduceAdd, false_and, and_false, true_and, and_true, reduceIte, nZ0, nZ1, hdm, hmd, hdj, hjd, sτ9_6.1, sτ9_6.2, pτ9]
          split
          · rename_i hc33
            skip
            unfold w_X16_product_92
            try simp only [forall_eq, rII, rIJ, rIP, rJJ, rJI, rJP, rPP, rPI, rPJ, g1, g2, g3, g4, g5, g6, g7, g8, Nat.reduceEqDiff, Nat.reduceAdd, false_and, and_false, true_and, and_true, reduceIte, nZ0, nZ1, hdm, hmd, hdj, hjd, sτ9_6.1, sτ9_6.2, pτ9]
            refine hQ _ _ ?_ ?_ ?_
            · exact rτ9
            · exact fτ9
            · exact ⟨⟨dq9, ag9, pg9, by omega⟩, ps9, by omega, by omega, by omega, okk⟩
          · rename_i hc33
            skip
            unfold w_X16_product_36
            try simp only [forall_eq, rII, rIJ, rIP, rJJ, rJI, rJP, rPP, rPI, rPJ, g1, g2, g3, g4, g5, g6, g7, g8, Nat.reduceEqDiff, Nat.reduceAdd, false_and, and_false, true_and, and_true, reduceIte, nZ0, nZ1, hdm, hmd, hdj, hjd, sτ9_6.1, sτ9_6.2, pτ9]
            rw [if_pos (show ((gI τ9 rm 9) ≠ 42) by omega)]
            unfold w_X16_product_49
            try simp only [forall_eq, rII, rIJ, rIP, rJJ, rJI, rJP, rPP, rPI, rPJ, g1, g2, g3, g4, g5, g6, g7, g8, Nat.reduceEqDiff, Nat.reduceAdd, false_and, and_false, true_and, and_true, reduceIte, nZ0, nZ1, hdm, hmd, hdj, hjd, sτ9_6.1, sτ9_6.2, pτ9]
            rw [if_pos (show ((gI τ9 rm 9) ≠ 47) by omega)]
            unfold w_X16_product_63
            try simp only [forall_eq, rII, rIJ, rIP, rJJ, rJI, rJP, rPP, rPI, rPJ, g1, g2, g3, g4, g5, g6, g7, g8, Nat.reduceEqDiff, Nat.reduceAdd, false_and, and_false, true_and, and_true, reduceIte, nZ0, nZ1, hdm, hmd, hdj, hjd, sτ9_6.1, sτ9_6.2, pτ9]
            unfold w_X16_product_65
            try simp only [forall_eq, rII, rIJ, rIP, rJJ, rJI, rJP, rPP, rPI, rPJ, g1, g2, g3, g4, g5, g6, g7, g8, Nat.reduceEqDiff, Nat.reduceAdd, false_and, and_false, true_and, and_true, reduceIte, nZ0, nZ1, hdm, hmd, hdj, hjd, sτ9_6.1, sτ9_6.2, pτ9]
            refine s2_X16_take g rτ9 (by exact ps9) (by omega) (by omega) (fun σ31 _ rσ31 fc p16 => ?_)
            have fσ31 : FdO ra jx rm da o [15, 16] [4, 5, 7, 8, 9, 10, 11, 12, 13, 19] [15, 16] σ σ31 := FdO.tr fτ9 (FdO.mor (Fr.d fc hda (by decide)) (by decide) (by decide) (by decide))
            have cσ31_9 := fc.2.1 9 (by decide)
            have cσ31_19 := fc.2.1 19 (by decide)
            have ps9 := p16.1; have cq9 := p16.2
            have pg9 := PgI.fr pg9 hda fc (by decide)
            have n17 := congrFun (Fr.ob fc hda (by decide)) 17
            (try simp only [rII, rIJ, rIP, rJJ, rJI, rJP, rPP, rPI, rPJ, g1, g2, g3, g4, g5, g6, g7, g8, Nat.reduceEqDiff, Nat.reduceAdd, false_and, and_false, true_and, and_true, reduceIte, nZ0, nZ1, hdm, hmd, hdj, hjd, sτ9_6.1, sτ9_6.2, pτ9] at n17)
            have okk : ∀ k, k ≠ 17 → gI σ31 da k = gI σ da k := fun k hk => (congrFun (Fr.ob fc hda (by decide)) k).trans (by (try simp only [rII, rIJ, rIP, rJJ, rJI, rJP, rPP, rPI, rPJ, g1, g2, g3, g4, g5, g6, g7, g8, Nat.reduceEqDiff, Nat.reduceAdd, false_and, and_false, true_and, and_true, reduceIte, nZ0, nZ1, hdm, hmd, hdj, hjd, sτ9_6.1, sτ9_6.2, pτ9]) <;> exact okk k hk)
            have n19 := (fc.2.1 19 (by decide)).1
            have le6 := PsI.le ps9
            have s6n := (fσ31.2.1 6 (by decide)).1
            have ded : dq9 (gI σ31 da 17) = dp (gI σ da 17) + 1 := by rw [n17]; exact de9
            have de9 := ded
            have sσ31_6 := fσ31.2.1 6 (by decide)
            have pσ31 := fσ31.2.2.2.1 (by decide)
            try simp only [rII, rIJ, rIP, rJJ, rJI, rJP, rPP, rPI, rPJ, g1, g2, g3, g4, g5, g6, g7, g8, Nat.reduceEqDiff, Nat.reduceAdd, false_and, and_false, true_and, and_true, reduceIte, nZ0, nZ1, hdm, hmd, hdj, hjd, sσ31_6.1, sσ31_6.2, pσ31, cσ31_9.1, cσ31_9.2, cσ31_19.1, cσ31_19.2] at p16
            try simp only [forall_eq, rII, rIJ, rIP, rJJ, rJI, rJP, rPP, rPI, rPJ, g1, g2, g3, g4, g5, g6, g7, g8, Nat.reduceEqDiff, Nat.reduceAdd, false_and, and_false, true_and, and_true, reduceIte, nZ0, nZ1, hdm, hmd, hdj, hjd, sσ31_6.1, sσ31_6.2, pσ31, cσ31_9.1, cσ31_9.2, cσ31_19.1, cσ31_19.2]
            refine ih6 (o := o) (dp := dq9) (ex := ex) g rσ31 (by exact ps9) (by (try simp only [rII, rIJ, rIP, rJJ, rJI, rJP, rPP, rPI, rPJ, g1, g2, g3, g4, g5, g6, g7, g8, Nat.reduceEqDiff, Nat.reduceAdd, false_and, and_false, true_and, and_true, reduceIte, nZ0, nZ1, hdm, hmd, hdj, hjd, sσ31_6.1, sσ31_6.2, pσ31, cσ31_9.1, cσ31_9.2, cσ31_19.1, cσ31_19.2]) <;> first | exact hd | (rw [fσ31.2.2.2.1 (by decide)]; exact hd)) hda h1 (by (try simp only [rII, rIJ, rIP, rJJ, rJI, rJP, rPP, rPI, rPJ, g1, g2, g3, g4, g5, g6, g7, g8, Nat.reduceEqDiff, Nat.reduceAdd, false_and, and_false, true_and, and_true, reduceIte, nZ0, nZ1, hdm, hmd, hdj, hjd, sσ31_6.1, sσ31_6.2, pσ31, cσ31_9.1, cσ31_9.2, cσ31_19.1, cσ31_19.2]) <;> omega) (by exact pg9) (by (try simp only [rII, rIJ, rIP, rJJ, rJI, rJP, rPP, rPI, rPJ, g1, g2, g3, g4, g5, g6, g7, g8, Nat.reduceEqDiff, Nat.reduceAdd, false_and, and_false, true_and, and_true, reduceIte, nZ0, nZ1, hdm, hmd, hdj, hjd, sσ31_6.1, sσ31_6.2, pσ31, cσ31_9.1, cσ31_9.2, cσ31_19.1, cσ31_19.2]) <;> omega) (by (try simp only [rII, rIJ, rIP, rJJ, rJI, rJP, rPP, rPI, rPJ, g1, g2, g3, g4, g5, g6, g7, g8, Nat.reduceEqDiff, Nat.reduceAdd, false_and, and_false, true_and, and_true, reduceIte, nZ0, nZ1, hdm, hmd, hdj, hjd, sσ31_6.1, sσ31_6.2, pσ31, cσ31_9.1, cσ31_9.2, cσ31_19.1, cσ31_19.2]) <;> exact fun pc hp => hex pc (by omega)) (by (try simp only [rII, rIJ, rIP, rJJ, rJI, rJP, rPP, rPI, rPJ, g1, g2, g3, g4, g5, g6, g7, g8, Nat.reduceEqDiff, Nat.reduceAdd, false_and, and_false, true_and, and_true, reduceIte, nZ0, nZ1, hdm, hmd, hdj, hjd, sσ31_6.1, sσ31_6.2, pσ31, cσ31_9.1, cσ31_9.2, cσ31_19.1, cσ31_19.2]) <;> omega) (fun σ32 _ rσ32 fc p17 => ?_) (fun σx E rx fx px => hX _ _ rx (FdO.tr fσ31 (FdO.mor (fx) (by decide) (by decide) (by decide))) px)
            have fσ32 : FdO ra jx rm da o [15, 16] [4, 5, 7, 8, 9, 10, 11, 12, 13, 19] [15, 16] σ σ32 := FdO.tr fσ31 (FdO.mor (fc) (by decide) (by decide) (by decide))
            have ag7 := ag9; have de7 := de9
            obtain ⟨⟨dq8, ag8, pg9, de8⟩, ps9, cq9, n19, nl9, ok9⟩ := p17
            have okk : ∀ k, k ≠ 17 → gI σ32 da k = gI σ da k := fun k hk => (ok9 k hk).trans (okk k hk)
            (try simp only [rII, rIJ, rIP, rJJ, rJI, rJP, rPP, rPI, rPJ, g1, g2, g3, g4, g5, g6, g7, g8, Nat.reduceEqDiff, Nat.reduceAdd, false_and, and_false, true_and, and_true, reduceIte, nZ0, nZ1, hdm, hmd, hdj, hjd, sσ31_6.1, sσ31_6.2, pσ31, cσ31_9.1, cσ31_9.2, cσ31_19.1, cσ31_19.2] at cq9 n19 nl9 ag8 de8)
            have ag9 : ∀ pc, pc ≤ gI σ da 17 → dq8 pc = dp pc := fun pc hp => by rw [ag8 pc (by omega)]; exact ag7 pc hp
            have de9 : dq8 (gI σ32 da 17) = dp (gI σ da 17) + 2 := by omega
            have le6 := PsI.le ps9
            have s6n := (fσ32.2.1 6 (by decide)).1
            have sσ32_6 := fσ32.2.1 6 (by decide)
            have pσ32 := fσ32.2.2.2.1 (by decide)
            try simp only [rII, rIJ, rIP, rJJ, rJI, rJP, rPP, rPI, rPJ, g1, g2, g3, g4, g5, g6, g7, g8, Nat.reduceEqDiff, Nat.reduceAdd, false_and, and_false, true_and, and_true, reduceIte, nZ0, nZ1, hdm, hmd, hdj, hjd, sσ32_6.1, sσ32_6.2, pσ32, cσ31_9.1, cσ31_9.2, cσ31_19.1, cσ31_19.2] at p17
            try simp only [forall_eq, rII, rIJ, rIP, rJJ, rJI, rJP, rPP, rPI, rPJ, g1, g2, g3, g4, g5, g6, g7, g8, Nat.reduceEqDiff, Nat.reduceAdd, false_and, and_false, true_and, and_true, reduceIte, nZ0, nZ1, hdm, hmd, hdj, hjd, sσ32_6.1, sσ32_6.2, pσ32, cσ31_9.1, cσ31_9.2, cσ31_19.1, cσ31_19.2]
            refine ⟨da, by exact hd, hda, ?_⟩
            refine s2_X15_step (o := o) g rσ32 hda (by omega) (by omega) (fun σ34 r35 rσ34 fc p18 => ?_)
            have fσ34 : FdO ra jx rm da o [15, 16] [4, 5, 7, 8, 9, 10, 11, 12, 13, 19] [15, 16] σ σ34 := FdO.tr fσ32 (FdO.mor (fc) (by decide) (by decide) (by decide))
            have cσ34_8 := fc.2.1 8 (by decide)
            have cσ34_9 := fc.2.1 9 (by decide)
            have cσ34_19 := fc.2.1 19 (by decide)
            have st0 := p18.1; have st1 := p18.2.1; have st2 := p18.2.2.1; have st3 := p18.2.2.2.1
            have okk : ∀ k, k ≠ 17 → gI σ34 da k = gI σ da k := fun k hk => by rw [p18.2.2.2.2 k hk]; exact okk k hk
            have pf9 := PsI.frj ps9 (FdO.fj fc) (by decide)
            have ps9 := pf9.1; have cq9 := pf9.2
            have n19 := (fc.2.1 19 (by decide)).1
            have le6 := PsI.le ps9
            have s6n := (fσ34.2.1 6 (by decide)).1
            obtain ⟨dq9, ag8, pg9, de8⟩ := PgI.putE (d' := dp (gI σ da 17) + 1) pg9 (by omega) st1 st2 st3 de9 (by omega) (by omega) (Or.inr (Or.inr (Or.inl ⟨by omega, by omega, by omega, by omega⟩)))
            have ag9 : ∀ pc, pc ≤ gI σ da 17 → dq9 pc = dp pc := fun pc hp => (ag8 pc (by omega)).trans (ag9 pc hp)
            have de9 := de8
            have sσ34_6 := fσ34.2.1 6 (by decide)
            have pσ34 := fσ34.2.2.2.1 (by decide)
            try simp only [rII, rIJ, rIP, rJJ, rJI, rJP, rPP, rPI, rPJ, g1, g2, g3, g4, g5, g6, g7, g8, Nat.reduceEqDiff, Nat.reduceAdd, false_and, and_false, true_and, and_true, reduceIte, nZ0, nZ1, hdm, hmd, hdj, hjd, sσ34_6.1, sσ34_6.2, pσ34, cσ31_9.1, cσ31_9.2, cσ31_19.1, cσ31_19.2, cσ34_8.1, cσ34_8.2, cσ34_9.1, cσ34_9.2, cσ34_19.1, cσ34_19.2] at p18
            try simp only [forall_eq, rII, rIJ, rIP, rJJ, rJI, rJP, rPP, rPI, rPJ, g1, g2, g3, g4, g5, g6, g7, g8, Nat.reduceEqDiff, Nat.reduceAdd, false_and, and_false, true_and, and_true, reduceIte, nZ0, nZ1, hdm, hmd, hdj, hjd, sσ34_6.1, sσ34_6.2, pσ34, cσ31_9.1, cσ31_9.2, cσ31_19.1, cσ31_19.2, cσ34_8.1, cσ34_8.2, cσ34_9.1, cσ34_9.2, cσ34_19.1, cσ34_19.2]
            refine s2_X16_see g rσ34 (by exact ps9) (fun σ36 _ rσ36 fc p19 => ?_) (fun σx E rx fx px => hX _ _ rx (FdO.tr fσ34 (FdO.mor (Fr.d fx hda (by decide)) (by decide) (by decide) (by decide))) px)
            have fσ36 : FdO ra jx rm da o [15, 16] [4, 5, 7, 8, 9, 10, 11, 12, 13, 19] [15, 16] σ σ36 := FdO.tr fσ34 (FdO.mor (Fr.d fc hda (by decide)) (by decide) (by decide) (by decide))
            have cσ36_19 := fc.2.1 19 (by decide)
            have ps9 := p19.1; have cq9 := p19.2
            have pg9 := PgI.fr pg9 hda fc (by decide)
            have n17 := congrFun (Fr.ob fc hda (by decide)) 17
            (try simp only [rII, rIJ, rIP, rJJ, rJI, rJP, rPP, rPI, rPJ, g1, g2, g3, g4, g5, g6, g7, g8, Nat.reduceEqDiff, Nat.reduceAdd, false_and, and_false, true_and, and_true, reduceIte, nZ0, nZ1, hdm, hmd, hdj, hjd, sσ34_6.1, sσ34_6.2, pσ34, cσ31_9.1, cσ31_9.2, cσ31_19.1, cσ31_19.2, cσ34_8.1, cσ34_8.2, cσ34_9.1, cσ34_9.2, cσ34_19.1, cσ34_19.2] at n17)
            have okk : ∀ k, k ≠ 17 → gI σ36 da k = gI σ da k := fun k hk => (congrFun (Fr.ob fc hda (by decide)) k).trans (by (try simp only [rII, rIJ, rIP, rJJ, rJI, rJP, rPP, rPI, rPJ, g1, g2, g3, g4, g5, g6, g7, g8, Nat.reduceEqDiff, Nat.reduceAdd, false_and, and_false, true_and, and_true, reduceIte, nZ0, nZ1, hdm, hmd, hdj, hjd, sσ34_6.1, sσ34_6.2, pσ34, cσ31_9.1, cσ31_9.2, cσ31_19.1, cσ31_19.2, cσ34_8.1, cσ34_8.2, cσ34_9.1, cσ34_9.2, cσ34_19.1, cσ34_19.2]) <;> exact okk k hk)
            have n19 := (fc.2.1 19 (by decide)).1
            (try simp only [rII, rIJ, rIP, rJJ, rJI, rJP, rPP, rPI, rPJ, g1, g2, g3, g4, g5, g6, g7, g8, Nat.reduceEqDiff, Nat.reduceAdd, false_and, and_false, true_and, and_true, reduceIte, nZ0, nZ1, hdm, hmd, hdj, hjd, sσ34_6.1, sσ34_6.2, pσ34, cσ31_9.1, cσ31_9.2, cσ31_19.1, cσ31_19.2, cσ34_8.1, cσ34_8.2, cσ34_9.1, cσ34_9.2, cσ34_19.1, cσ34_19.2] at n19)
            have le6 := PsI.le ps9
            have s6n := (fσ36.2.1 6 (by decide)).1
            have ded : dq9 (gI σ36 da 17) = dp (gI σ da 17) + 1 := by rw [n17]; exact de9
            have de9 := ded
            have sσ36_6 := fσ36.2.1 6 (by decide)
            have pσ36 := fσ36.2.2.2.1 (by decide)
            try simp only [rII, rIJ, rIP, rJJ, rJI, rJP, rPP, rPI, rPJ, g1, g2, g3, g4, g5, g6, g7, g8, Nat.reduceEqDiff, Nat.reduceAdd, false_and, and_false, true_and, and_true, reduceIte, nZ0, nZ1, hdm, hmd, hdj, hjd, sσ36_6.1, sσ36_6.2, pσ36, cσ31_9.1, cσ31_9.2, cσ31_19.1, cσ31_19.2, cσ34_8.1, cσ34_8.2, cσ34_9.1, cσ34_9.2, cσ34_19.1, cσ34_19.2, cσ36_19.1, cσ36_19.2] at p19
            try simp only [forall_eq, rII, rIJ, rIP, rJJ, rJI, rJP, rPP, rPI, rPJ, g1, g2, g3, g4, g5, g6, g7, g8, Nat.reduceEqDiff, Nat.reduceAdd, false_and, and_false, true_and, and_true, reduceIte, nZ0, nZ1, hdm, hmd, hdj, hjd, sσ36_6.1, sσ36_6.2, pσ36, cσ31_9.1, cσ31_9.2, cσ31_19.1, cσ31_19.2, cσ34_8.1, cσ34_8.2, cσ34_9.1, cσ34_9.2, cσ34_19.1, cσ34_19.2, cσ36_19.1, cσ36_19.2]
            refine ih9 _ ?_ ?_ ?_ ?_
            · exact rσ36
            · exact fσ36
            · exact ⟨⟨dq9, ag9, pg9, by omega⟩, ⟨ps9, by omega⟩, ⟨by omega, by omega, by omega⟩, okk⟩
            · (try simp only [rII, rIJ, rIP, rJJ, rJI, rJP, rPP, rPI, rPJ, g1, g2, g3, g4, g5, g6, g7, g8, Nat.reduceEqDiff, Nat.reduceAdd, false_and, and_false, true_and, and_true, reduceIte, nZ0, nZ1, hdm, hmd, hdj, hjd, sσ36_6.1, sσ36_6.2, pσ36, cσ31_9.1, cσ31_9.2, cσ31_19.1, cσ31_19.2, cσ34_8.1, cσ34_8.2, cσ34_9.1, cσ34_9.2, cσ34_19.1, cσ34_19.2, cσ36_19.1, cσ36_19.2]) <;> (first | omega | with_reducible assumption | (unfold rng; omega) | (unfold rng; (repeat' split) <;> omega) | decide)
  refine ⟨_, L9 _ _ ?_ ?_ ?_ (Nat.lt_succ_self _)⟩
  · exact rσ18
  · exact fσ18
  · exact ⟨⟨dq9, ag9, pg9, by omega⟩, ⟨ps9, by omega⟩, ⟨by omega, by omega, by omega⟩, okk⟩
set_option maxHeartbeats 1000000 in
theorem s_X16_single {ra : Nat → Nat} {jx : Nat → Nat → Nat} {rm : Nat} {n : Nat} {da : Nat} {o : Int} {dp : Int → Int} {ex : Int → Prop} (g : Geo ra jx rm) {σ : Sg} {v1 : Int} (rσ : Rg ra jx rm σ) (hps : PsI rm σ) (hd : gP σ rm 18 = some da) (hda : da = ra 15 ∨ da = ra 16) (h1 : 0 ≤ v1 ∧ v1 < 16) (hN : 0 ≤ gI σ da 17 ∧ gI σ da 17 ≤ 4 * cn rm σ) (hpg : PgI jx da σ dp ex) (hdp : 0 ≤ dp (gI σ da 17) ∧ dp (gI σ da 17) ≤ 3 * gI σ rm 19 + 3) (hex : ∀ pc, gI σ da 17 ≤ pc → ¬ ex pc) (hfu : 7 * (11 - gI σ rm 19) - 6 ≤ (n : Int) + 1) (ih0 : ∀ {da : Nat} {o : Int} {dp : Int → Int} {ex : Int → Prop} (_ : Geo ra jx rm) {σ : Sg} {v1 : Int} (_ : Rg ra jx rm σ) (_ : PsI rm σ) (_ : gP σ rm 18 = some da) (_ : da = ra 15 ∨ da = ra 16) (_ : 0 ≤ v1 ∧ v1 < 16) (_ : 0 ≤ gI σ da 17 ∧ gI σ da 17 ≤ 4 * cn rm σ) (_ : PgI jx da σ dp ex) (_ : 0 ≤ dp (gI σ da 17) ∧ dp (gI σ da 17) ≤ 3 * gI σ rm 19 + 0) (_ : ∀ pc, gI σ da 17 ≤ pc → ¬ ex pc) (_ : 7 * (11 - gI σ rm 19) - 0 ≤ (n : Int)) {Q : Sg → Unit → Prop} {X : Sg → String → Prop} (_ : ∀ (σ' : Sg) (r : Unit), Rg ra jx rm σ' → FdO ra jx rm da o [15, 16] [4, 5, 7, 8, 9, 10, 11, 12, 13, 19] [15, 16] σ σ' → ((∃ dq : Int → Int, (∀ pc, pc ≤ gI σ da 17 → dq pc = dp pc) ∧ PgI jx da σ' dq ex ∧ dq (gI σ' da 17) = dp (gI σ da 17) + 1) ∧ PsI rm σ' ∧ gI σ' da 17 - 4 * cn rm σ' ≤ gI σ da 17 - 4 * cn rm σ ∧ gI σ' rm 19 = gI σ rm 19 ∧ gI σ da 17 < gI σ' da 17 ∧ (∀ k, k ≠ 17 → gI σ' da k = gI σ da k)) → Q σ' r) (_ : ∀ (σ' : Sg) (E : String), Rg ra jx rm σ' → FdO ra jx rm da o [15, 16] [4, 5, 7, 8, 9, 10, 11, 12, 13, 19] [15, 16] σ σ' → (E = "StreamHouseModel$Fault") → X σ' E), wrec ra jx rm n 0 v1 σ Q X) (ih1 : ∀ {da : Nat} {o : Int} {dp : Int → Int} {ex : Int → Prop} (_ : Geo ra jx rm) {σ : Sg} {v1 : Int} (_ : Rg ra jx rm σ) (_ : PsI rm σ) (_ : gP σ rm 18 = some da) (_ : da = ra 15 ∨ da = ra 16) (_ : 0 ≤ v1 ∧ v1 < 16) (_ : 0 ≤ gI σ da 17 ∧ gI σ da 17 ≤ 4 * cn rm σ) (_ : PgI jx da σ dp ex) (_ : 0 ≤ dp (gI σ da 17) ∧ dp (gI σ da 17) ≤ 3 * gI σ rm 19 + 0) (_ : ∀ pc, gI σ da 17 ≤ pc → ¬ ex pc) (_ : 7 * (11 - gI σ rm 19) - 1 ≤ (n : Int)) {Q : Sg → Unit → Prop} {X : Sg → String → Prop} (_ : ∀ (σ' : Sg) (r : Unit), Rg ra jx rm σ' → FdO ra jx rm da o [15, 16] [4, 5, 7, 8, 9, 10, 11, 12, 13, 19] [15, 16] σ σ' → ((∃ dq : Int → Int, (∀ pc, pc ≤ gI σ da 17 → dq pc = dp pc) ∧ PgI jx da σ' dq ex ∧ dq (gI σ' da 17) = dp (gI σ da 17) + 1) ∧ PsI rm σ' ∧ gI σ' da 17 - 4 * cn rm σ' ≤ gI σ da 17 - 4 * cn rm σ ∧ gI σ' rm 19 = gI σ rm 19 ∧ gI σ da 17 < gI σ' da 17 ∧ (∀ k, k ≠ 17 → gI σ' da k = gI σ da k)) → Q σ' r) (_ : ∀ (σ' : Sg) (E : String), Rg ra jx rm σ' → FdO ra jx rm da o [15, 16] [4, 5, 7, 8, 9, 10, 11, 12, 13, 19] [15, 16] σ σ' → (E = "StreamHouseModel$Fault") → X σ' E), wrec ra jx rm n 1 v1 σ Q X) (ih2 : ∀ {da : Nat} {o : Int} {dp : Int → Int} {ex : Int → Prop} (_ : Geo ra jx rm) {σ : Sg} {v1 : Int} (_ : Rg ra jx rm σ) (_ : PsI rm σ) (_ : gP σ rm 18 = some da) (_ : da = ra 15 ∨ da = ra 16) (_ : 0 ≤ v1 ∧ v1 < 16) (_ : 0 ≤ gI σ da 17 ∧ gI σ da 17 ≤ 4 * cn rm σ) (_ : PgI jx da σ dp ex) (_ : 0 ≤ dp (gI σ da 17) ∧ dp (gI σ da 17) ≤ 3 * gI σ rm 19 + 0) (_ : ∀ pc, gI σ da 17 ≤ pc → ¬ ex pc) (_ : 7 * (11 - gI σ rm 19) - 2 ≤ (n : Int)) {Q : Sg → Unit → Prop} {X : Sg → String → Prop} (_ : ∀ (σ' : Sg) (r : Unit), Rg ra jx rm σ' → FdO ra jx rm da o [15, 16] [4, 5, 7, 8, 9, 10, 11, 12, 13, 19] [15, 16] σ σ' → ((∃ dq : Int → Int, (∀ pc, pc ≤ gI σ da 17 → dq pc = dp pc) ∧ PgI jx da σ' dq ex ∧ dq (gI σ' da 17) = dp (gI σ da 17) + 1) ∧ PsI rm σ' ∧ gI σ' da 17 - 4 * cn rm σ' ≤ gI σ da 17 - 4 * cn rm σ ∧ gI σ' rm 19 = gI σ rm 19 ∧ gI σ da 17 < gI σ' da 17 ∧ (∀ k, k ≠ 17 → gI σ' da k = gI σ da k)) → Q σ' r) (_ : ∀ (σ' : Sg) (E : String), Rg ra jx rm σ' → FdO ra jx rm da o [15, 16] [4, 5, 7, 8, 9, 10, 11, 12, 13, 19] [15, 16] σ σ' → (E = "StreamHouseModel$Fault") → X σ' E), wrec ra jx rm n 2 v1 σ Q X) (ih3 : ∀ {da : Nat} {o : Int} {dp : Int → Int} {ex : Int → Prop} (_ : Geo ra jx rm) {σ : Sg} {v1 : Int} (_ : Rg ra jx rm σ) (_ : PsI rm σ) (_ : gP σ rm 18 = some da) (_ : da = ra 15 ∨ da = ra 16) (_ : 0 ≤ v1 ∧ v1 < 16) (_ : 0 ≤ gI σ da 17 ∧ gI σ da 17 ≤ 4 * cn rm σ) (_ : PgI jx da σ dp ex) (_ : 0 ≤ dp (gI σ da 17) ∧ dp (gI σ da 17) ≤ 3 * gI σ rm 19 + 0) (_ : ∀ pc, gI σ da 17 ≤ pc → ¬ ex pc) (_ : 7 * (11 - gI σ rm 19) - 3 ≤ (n : Int)) {Q : Sg → Unit → Prop} {X : Sg → String → Prop} (_ : ∀ (σ' : Sg) (r : Unit), Rg ra jx rm σ' → FdO ra jx rm da o [15, 16] [4, 5, 7, 8, 9, 10, 11, 12, 13, 19] [15, 16] σ σ' → ((∃ dq : Int → Int, (∀ pc, pc ≤ gI σ da 17 → dq pc = dp pc) ∧ PgI jx da σ' dq ex ∧ dq (gI σ' da 17) = dp (gI σ da 17) + 1) ∧ PsI rm σ' ∧ gI σ' da 17 - 4 * cn rm σ' ≤ gI σ da 17 - 4 * cn rm σ ∧ gI σ' rm 19 = gI σ rm 19 ∧ gI σ da 17 < gI σ' da 17 ∧ (∀ k, k ≠ 17 → gI σ' da k = gI σ da k)) → Q σ' r) (_ : ∀ (σ' : Sg) (E : String), Rg ra jx rm σ' → FdO ra jx rm da o [15, 16] [4, 5, 7, 8, 9, 10, 11, 12, 13, 19] [15, 16] σ σ' → (E = "StreamHouseModel$Fault") → X σ' E), wrec ra jx rm n 3 v1 σ Q X) (ih4 : ∀ {da : Nat} {o : Int} {dp : Int → Int} {ex : Int → Prop} (_ : Geo ra jx rm) {σ : Sg} {v1 : Int} (_ : Rg ra jx rm σ) (_ : PsI rm σ) (_ : gP σ rm 18 = some da) (_ : da = ra 15 ∨ da = ra 16) (_ : 0 ≤ v1 ∧ v1 < 16) (_ : 0 ≤ gI σ da 17 ∧ gI σ da 17 ≤ 4 * cn rm σ) (_ : PgI jx da σ dp ex) (_ : 0 ≤ dp (gI σ da 17) ∧ dp (gI σ da 17) ≤ 3 * gI σ rm 19 + 1) (_ : ∀ pc, gI σ da 17 ≤ pc → ¬ ex pc) (_ : 7 * (11 - gI σ rm 19) - 4 ≤ (n : Int)) {Q : Sg → Unit → Prop} {X : Sg → String → Prop} (_ : ∀ (σ' : Sg) (r : Unit), Rg ra jx rm σ' → FdO ra jx rm da o [15, 16] [4, 5, 7, 8, 9, 10, 11, 12, 13, 19] [15, 16] σ σ' → ((∃ dq : Int → Int, (∀ pc, pc ≤ gI σ da 17 → dq pc = dp pc) ∧ PgI jx da σ' dq ex ∧ dq (gI σ' da 17) = dp (gI σ da 17) + 1) ∧ PsI rm σ' ∧ gI σ' da 17 - 4 * cn rm σ' ≤ gI σ da 17 - 4 * cn rm σ ∧ gI σ' rm 19 = gI σ rm 19 ∧ gI σ da 17 < gI σ' da 17 ∧ (∀ k, k ≠ 17 → gI σ' da k = gI σ da k)) → Q σ' r) (_ : ∀ (σ' : Sg) (E : String), Rg ra jx rm σ' → FdO ra jx rm da o [15, 16] [4, 5, 7, 8, 9, 10, 11, 12, 13, 19] [15, 16] σ σ' → (E = "StreamHouseModel$Fault") → X σ' E), wrec ra jx rm n 4 v1 σ Q X) (ih5 : ∀ {da : Nat} {o : Int} {dp : Int → Int} {ex : Int → Prop} (_ : Geo ra jx rm) {σ : Sg} {v1 : Int} (_ : Rg ra jx rm σ) (_ : PsI rm σ) (_ : gP σ rm 18 = some da) (_ : da = ra 15 ∨ da = ra 16) (_ : 0 ≤ v1 ∧ v1 < 16) (_ : 0 ≤ gI σ da 17 ∧ gI σ da 17 ≤ 4 * cn rm σ) (_ : PgI jx da σ dp ex) (_ : 0 ≤ dp (gI σ da 17) ∧ dp (gI σ da 17) ≤ 3 * gI σ rm 19 + 2) (_ : ∀ pc, gI σ da 17 ≤ pc → ¬ ex pc) (_ : 7 * (11 - gI σ rm 19) - 5 ≤ (n : Int)) {Q : Sg → Unit → Prop} {X : Sg → String → Prop} (_ : ∀ (σ' : Sg) (r : Unit), Rg ra jx rm σ' → FdO ra jx rm da o [15, 16] [4, 5, 7, 8, 9, 10, 11, 12, 13, 19] [15, 16] σ σ' → ((∃ dq : Int → Int, (∀ pc, pc ≤ gI σ da 17 → dq pc = dp pc) ∧ PgI jx da σ' dq ex ∧ dq (gI σ' da 17) = dp (gI σ da 17) + 1) ∧ PsI rm σ' ∧ gI σ' da 17 - 4 * cn rm σ' ≤ gI σ da 17 - 4 * cn rm σ ∧ gI σ' rm 19 = gI σ rm 19 ∧ gI σ da 17 < gI σ' da 17 ∧ (∀ k, k ≠ 17 → gI σ' da k = gI σ da k)) → Q σ' r) (_ : ∀ (σ' : Sg) (E : String), Rg ra jx rm σ' → FdO ra jx rm da o [15, 16] [4, 5, 7, 8, 9, 10, 11, 12, 13, 19] [15, 16] σ σ' → (E = "StreamHouseModel$Fault") → X σ' E), wrec ra jx rm n 5 v1 σ Q X) (ih6 : ∀ {da : Nat} {o : Int} {dp : Int → Int} {ex : Int → Prop} (_ : Geo ra jx rm) {σ : Sg} {v1 : Int} (_ : Rg ra jx rm σ) (_ : PsI rm σ) (_ : gP σ rm 18 = some da) (_ : da = ra 15 ∨ da = ra 16) (_ : 0 ≤ v1 ∧ v1 < 16) (_ : 0 ≤ gI σ da 17 ∧ gI σ da 17 ≤ 4 * cn rm σ) (_ : PgI jx da σ dp ex) (_ : 0 ≤ dp (gI σ da 17) ∧ dp (gI σ da 17) ≤ 3 * gI σ rm 19 + 3) (_ : ∀ pc, gI σ da 17 ≤ pc → ¬ ex pc) (_ : 7 * (11 - gI σ rm 19) - 6 ≤ (n : Int)) {Q : Sg → Unit → Prop} {X : Sg → String → Prop} (_ : ∀ (σ' : Sg) (r : Unit), Rg ra jx rm σ' → FdO ra jx rm da o [15, 16] [4, 5, 7, 8, 9, 10, 11, 12, 13, 19] [15, 16] σ σ' → ((∃ dq : Int → Int, (∀ pc, pc ≤ gI σ da 17 → dq pc = dp pc) ∧ PgI jx da σ' dq ex ∧ dq (gI σ' da 17) = dp (gI σ da 17) + 1) ∧ PsI rm σ' ∧ gI σ' da 17 - 4 * cn rm σ' ≤ gI σ da 17 - 4 * cn rm σ ∧ gI σ' rm 19 = gI σ rm 19 ∧ gI σ da 17 < gI σ' da 17 ∧ (∀ k, k ≠ 17 → gI σ' da k = gI σ da k)) → Q σ' r) (_ : ∀ (σ' : Sg) (E : String), Rg ra jx rm σ' → FdO ra jx rm da o [15, 16] [4, 5, 7, 8, 9, 10, 11, 12, 13, 19] [15, 16] σ σ' → (E = "StreamHouseModel$Fault") → X σ' E), wrec ra jx rm n 6 v1 σ Q X) {Q : Sg → Unit → Prop} {X : Sg → String → Prop} (hQ : ∀ (σ' : Sg) (r : Unit), Rg ra jx rm σ' → FdO ra jx rm da o [15, 16] [4, 5, 7, 8, 9, 10, 11, 12, 13, 19] [15, 16] σ σ' → ((∃ dq : Int → Int, (∀ pc, pc ≤ gI σ da 17 → dq pc = dp pc) ∧ PgI jx da σ' dq ex ∧ dq (gI σ' da 17) = dp (gI σ da 17) + 1) ∧ PsI rm σ' ∧ gI σ' da 17 - 4 * cn rm σ' ≤ gI σ da 17 - 4 * cn rm σ ∧ gI σ' rm 19 = gI σ rm 19 ∧ gI σ da 17 < gI σ' da 17 ∧ (∀ k, k ≠ 17 → gI σ' da k = gI σ da k)) → Q σ' r) (hX : ∀ (σ' : Sg) (E : String), Rg ra jx rm σ' → FdO ra jx rm da o [15, 16] [4, 5, 7, 8, 9, 10, 11, 12, 13, 19] [15, 16] σ σ' → (E = "StreamHouseModel$Fault") → X σ' E) : w_X16_single_0 ra jx rm (wrec ra jx rm n) Q X σ v1 := by
  obtain ⟨g1, g2, g3, g4, g5, g6, g7, g8⟩ := id g
  have fσ : FdO ra jx rm da o [15, 16] [4, 5, 7, 8, 9, 10, 11, 12, 13, 19] [15, 16] σ σ := FdO.rf
  have hdm : ¬ da = rm := by rcases hda with q | q <;> rw [q] <;> exact g2 _
  have hmd : ¬ rm = da := fun q => hdm q.symm
  have hdj : ∀ a k, ¬ da = jx a k := fun a k => by rcases hda with q | q <;> rw [q] <;> exact g5 a k _
  have hjd : ∀ a k, ¬ jx a k = da := fun a k => by rcases hda with q | q <;> rw [q] <;> exact g4 a k _
  have q06 := rσ.2.1 6; simp only [rgS] at q06
  have q19 := rσ.2.1 19; simp only [rgS] at q19
  have ps9 := hps; have pg9 := hpg
  have okk : ∀ k, k ≠ 17 → gI σ da k = gI σ da k := fun _ _ => rfl
  have le6 := PsI.le hps
  unfold w_X16_single_0
  try simp only [forall_eq, rII, rIJ, rIP, rJJ, rJI, rJP, rPP, rPI, rPJ, g1, g2, g3, g4, g5, g6, g7, g8, Nat.reduceEqDiff, Nat.reduceAdd, false_and, and_false, true_and, and_true, reduceIte, nZ0, nZ1, hdm, hmd, hdj, hjd]
  refine s2_X16_see g rσ (by first | exact ps9 | exact PsI19 ps9) (fun σ65 _ rσ65 fc p1 => ?_) (fun σx E rx fx px => hX _ _ rx (FdO.tr fσ (FdO.mor (Fr.d fx hda (by decide)) (by decide) (by decide) (by decide))) px)
  have fσ65 : FdO ra jx rm da o [15, 16] [4, 5, 7, 8, 9, 10, 11, 12, 13, 19] [15, 16] σ σ65 := FdO.tr fσ (FdO.mor (Fr.d fc hda (by decide)) (by decide) (by decide) (by decide))
  have cσ65_19 := fc.2.1 19 (by decide)
  have ps9 := p1.1; have cq9 := p1.2
  have pg9 := PgI.fr pg9 hda fc (by decide)
  have n17 := congrFun (Fr.ob fc hda (by decide)) 17
  (try simp only [rII, rIJ, rIP, rJJ, rJI, rJP, rPP, rPI, rPJ, g1, g2, g3, g4, g5, g6, g7, g8, Nat.reduceEqDiff, Nat.reduceAdd, false_and, and_false, true_and, and_true, reduceIte, nZ0, nZ1, hdm, hmd, hdj, hjd] at n17)
  have okk : ∀ k, k ≠ 17 → gI σ65 da k = gI σ da k := fun k hk => (congrFun (Fr.ob fc hda (by decide)) k).trans (by (try simp only [rII, rIJ, rIP, rJJ, rJI, rJP, rPP, rPI, rPJ, g1, g2, g3, g4, g5, g6, g7, g8, Nat.reduceEqDiff, Nat.reduceAdd, false_and, and_false, true_and, and_true, reduceIte, nZ0, nZ1, hdm, hmd, hdj, hjd]) <;> exact okk k hk)
  have n19 := (fc.2.1 19 (by decide)).1
  have le6 := PsI.le ps9
  have s6n := (fσ65.2.1 6 (by decide)).1
  have de9 : dp (gI σ65 da 17) = dp (gI σ da 17) := by rw [n17]
  have ag9 : ∀ pc, pc ≤ gI σ da 17 → dp pc = dp pc := fun _ _ => rfl
  have sσ65_6 := fσ65.2.1 6 (by decide)
  have pσ65 := fσ65.2.2.2.1 (by decide)
  try simp only [rII, rIJ, rIP, rJJ, rJI, rJP, rPP, rPI, rPJ, g1, g2, g3, g4, g5, g6, g7, g8, Nat.reduceEqDiff, Nat.reduceAdd, false_and, and_false, true_and, and_true, reduceIte, nZ0, nZ1, hdm, hmd, hdj, hjd, sσ65_6.1, sσ65_6.2, pσ65, cσ65_19.1, cσ65_19.2] at p1
  try simp only [forall_eq, rII, rIJ, rIP, rJJ, rJI, rJP, rPP, rPI, rPJ, g1, g2, g3, g4, g5, g6, g7, g8, Nat.reduceEqDiff, Nat.reduceAdd, false_and, and_false, true_and, and_true, reduceIte, nZ0, nZ1, hdm, hmd, hdj, hjd, sσ65_6.1, sσ65_6.2, pσ65, cσ65_19.1, cσ65_19.2]
  have q2 := rσ65.2.1 9; simp only [rgS, hdm, hmd, hdj, hjd] at q2
  split
  · rename_i hc10
    skip
    unfold w_X16_single_22
    try simp only [forall_eq, rII, rIJ, rIP, rJJ, rJI, rJP, rPP, rPI, rPJ, g1, g2, g3, g4, g5, g6, g7, g8, Nat.reduceEqDiff, Nat.reduceAdd, false_and, and_false, true_and, and_true, reduceIte, nZ0, nZ1, hdm, hmd, hdj, hjd, sσ65_6.1, sσ65_6.2, pσ65, cσ65_19.1, cσ65_19.2]
    rw [if_neg (show ¬ ((gI σ65 rm 9) ≠ 45) by omega)]
    unfold w_X16_single_31
    try simp only [forall_eq, rII, rIJ, rIP, rJJ, rJI, rJP, rPP, rPI, rPJ, g1, g2, g3, g4, g5, g6, g7, g8, Nat.reduceEqDiff, Nat.reduceAdd, false_and, and_false, true_and, and_true, reduceIte, nZ0, nZ1, hdm, hmd, hdj, hjd, sσ65_6.1, sσ65_6.2, pσ65, cσ65_19.1, cσ65_19.2]
    unfold w_X16_single_38
    try simp only [forall_eq, rII, rIJ, rIP, rJJ, rJI, rJP, rPP, rPI, rPJ, g1, g2, g3, g4, g5, g6, g7, g8, Nat.reduceEqDiff, Nat.reduceAdd, false_and, and_false, true_and, and_true, reduceIte, nZ0, nZ1, hdm, hmd, hdj, hjd, sσ65_6.1, sσ65_6.2, pσ65, cσ65_19.1, cσ65_19.2]
    refine s2_X16_opens g rσ65 (by first | exact ps9 | exact PsI19 ps9) (by omega) (by omega) (fun σ66 _ rσ66 fc p3 => ?_) (fun σx E rx fx px => hX _ _ rx (FdO.tr fσ65 (FdO.mor (Fr.d fx hda (by decide)) (by decide) (by decide) (by decide))) px)
    have fσ66 : FdO ra jx rm da o [15, 16] [4, 5, 7, 8, 9, 10, 11, 12, 13, 19] [15, 16] σ σ66 := FdO.tr fσ65 (FdO.mor (Fr.d fc hda (by decide)) (by decide) (by decide) (by decide))
    have cσ66_9 := fc.2.1 9 (by decide)
    have cσ66_13 := fc.2.1 13 (by decide)
    have ps9 := p3.1; have cq9 := p3.2
    have pg9 := PgI.fr pg9 hda fc (by decide)
    have n17 := congrFun (Fr.ob fc hda (by decide)) 17
    (try simp only [rII, rIJ, rIP, rJJ, rJI, rJP, rPP, rPI, rPJ, g1, g2, g3, g4, g5, g6, g7, g8, Nat.reduceEqDiff, Nat.reduceAdd, false_and, and_false, true_and, and_true, reduceIte, nZ0, nZ1, hdm, hmd, hdj, hjd, sσ65_6.1, sσ65_6.2, pσ65, cσ65_19.1, cσ65_19.2] at n17)
    have okk : ∀ k, k ≠ 17 → gI σ66 da k = gI σ da k := fun k hk => (congrFun (Fr.ob fc hda (by decide)) k).trans (by (try simp only [rII, rIJ, rIP, rJJ, rJI, rJP, rPP, rPI, rPJ, g1, g2, g3, g4, g5, g6, g7, g8, Nat.reduceEqDiff, Nat.reduceAdd, false_and, and_false, true_and, and_true, reduceIte, nZ0, nZ1, hdm, hmd, hdj, hjd, sσ65_6.1, sσ65_6.2, pσ65, cσ65_19.1, cσ65_19.2]) <;> exact okk k hk)
    have le6 := PsI.le ps9
    have s6n := (fσ66.2.1 6 (by decide)).1
    have ded : dp (gI σ66 da 17) = dp (gI σ da 17) := by rw [n17]; exact de9
    have de9 := ded
    have sσ66_6 := fσ66.2.1 6 (by decide)
    have pσ66 := fσ66.2.2.2.1 (by decide)
    try simp only [rII, rIJ, rIP, rJJ, rJI, rJP, rPP, rPI, rPJ, g1, g2, g3, g4, g5, g6, g7, g8, Nat.reduceEqDiff, Nat.reduceAdd, false_and, and_false, true_and, and_true, reduceIte, nZ0, nZ1, hdm, hmd, hdj, hjd, sσ66_6.1, sσ66_6.2, pσ66, cσ65_19.1, cσ65_19.2, cσ66_9.1, cσ66_9.2, cσ66_13.1, cσ66_13.2] at p3
    try simp only [forall_eq, rII, rIJ, rIP, rJJ, rJI, rJP, rPP, rPI, rPJ, g1, g2, g3, g4, g5, g6, g7, g8, Nat.reduceEqDiff, Nat.reduceAdd, false_and, and_false, true_and, and_true, reduceIte, nZ0, nZ1, hdm, hmd, hdj, hjd, sσ66_6.1, sσ66_6.2, pσ66, cσ65_19.1, cσ65_19.2, cσ66_9.1, cσ66_9.2, cσ66_13.1, cσ66_13.2]
    refine ih6 (o := o) (dp := dp) (ex := ex) g rσ66 (by first | exact ps9 | exact PsI19 ps9) (by (try simp only [rII, rIJ, rIP, rJJ, rJI, rJP, rPP, rPI, rPJ, g1, g2, g3, g4, g5, g6, g7, g8, Nat.reduceEqDiff, Nat.reduceAdd, false_and, and_false, true_and, and_true, reduceIte, nZ0, nZ1, hdm, hmd, hdj, hjd, sσ66_6.1, sσ66_6.2, pσ66, cσ65_19.1, cσ65_19.2, cσ66_9.1, cσ66_9.2, cσ66_13.1, cσ66_13.2]) <;> first | exact hd | (rw [fσ66.2.2.2.1 (by decide)]; exact hd)) hda h1 (by (try simp only [rII, rIJ, rIP, rJJ, rJI, rJP, rPP, rPI, rPJ, g1, g2, g3, g4, g5, g6, g7, g8, Nat.reduceEqDiff, Nat.reduceAdd, false_and, and_false, true_and, and_true, reduceIte, nZ0, nZ1, hdm, hmd, hdj, hjd, sσ66_6.1, sσ66_6.2, pσ66, cσ65_19.1, cσ65_19.2, cσ66_9.1, cσ66_9.2, cσ66_13.1, cσ66_13.2]) <;> omega) (by exact pg9) (by (try simp only [rII, rIJ, rIP, rJJ, rJI, rJP, rPP, rPI, rPJ, g1, g2, g3, g4, g5, g6, g7, g8, Nat.reduceEqDiff, Nat.reduceAdd, false_and, and_false, true_and, and_true, reduceIte, nZ0, nZ1, hdm, hmd, hdj, hjd, sσ66_6.1, sσ66_6.2, pσ66, cσ65_19.1, cσ65_19.2, cσ66_9.1, cσ66_9.2, cσ66_13.1, cσ66_13.2]) <;> omega) (by (try simp only [rII, rIJ, rIP, rJJ, rJI, rJP, rPP, rPI, rPJ, g1, g2, g3, g4, g5, g6, g7, g8, Nat.reduceEqDiff, Nat.reduceAdd, false_and, and_false, true_and, and_true, reduceIte, nZ0, nZ1, hdm, hmd, hdj, hjd, sσ66_6.1, sσ66_6.2, pσ66, cσ65_19.1, cσ65_19.2, cσ66_9.1, cσ66_9.2, cσ66_13.1, cσ66_13.2]) <;> exact fun pc hp => hex pc (by omega)) (by (try simp only [rII, rIJ, rIP, rJJ, rJI, rJP, rPP, rPI, rPJ, g1, g2, g3, g4, g5, g6, g7, g8, Nat.reduceEqDiff, Nat.reduceAdd, false_and, and_false, true_and, and_true, reduceIte, nZ0, nZ1, hdm, hmd, hdj, hjd, sσ66_6.1, sσ66_6.2, pσ66, cσ65_19.1, cσ65_19.2, cσ66_9.1, cσ66_9.2, cσ66_13.1, cσ66_13.2]) <;> omega) (fun σ67 _ rσ67 fc p4 => ?_) (fun σx E rx fx px => hX _ _ rx (FdO.tr fσ66 (FdO.mor (fx) (by decide) (by decide) (by decide))) px)
    have fσ67 : FdO ra jx rm da o [15, 16] [4, 5, 7, 8, 9, 10, 11, 12, 13, 19] [15, 16] σ σ67 := FdO.tr fσ66 (FdO.mor (fc) (by decide) (by decide) (by decide))
    obtain ⟨⟨dq9, ag9, pg9, de9⟩, ps9, cq9, n19, nl9, ok9⟩ := p4
    have okk : ∀ k, k ≠ 17 → gI σ67 da k = gI σ da k := fun k hk => (ok9 k hk).trans (by (try simp only [rII, rIJ, rIP, rJJ, rJI, rJP, rPP, rPI, rPJ, g1, g2, g3, g4, g5, g6, g7, g8, Nat.reduceEqDiff, Nat.reduceAdd, false_and, and_false, true_and, and_true, reduceIte, nZ0, nZ1, hdm, hmd, hdj, hjd, sσ66_6.1, sσ66_6.2, pσ66, cσ65_19.1, cσ65_19.2, cσ66_9.1, cσ66_9.2, cσ66_13.1, cσ66_13.2]) <;> exact okk k hk)
    (try simp only [rII, rIJ, rIP, rJJ, rJI, rJP, rPP, rPI, rPJ, g1, g2, g3, g4, g5, g6, g7, g8, Nat.reduceEqDiff, Nat.reduceAdd, false_and, and_false, true_and, and_true, reduceIte, nZ0, nZ1, hdm, hmd, hdj, hjd, sσ66_6.1, sσ66_6.2, pσ66, cσ65_19.1, cσ65_19.2, cσ66_9.1, cσ66_9.2, cσ66_13.1, cσ66_13.2] at cq9 n19 nl9 ag9 de9)
    have eo9 : gI σ66 da 17 = gI σ da 17 := by omega
    (try rw [eo9] at de9)
    have ag9 : ∀ pc, pc ≤ gI σ da 17 → dq9 pc = dp pc := fun pc hp => ag9 pc (by omega)
    have le6 := PsI.le ps9
    have s6n := (fσ67.2.1 6 (by decide)).1
    have sσ67_6 := fσ67.2.1 6 (by decide)
    have pσ67 := fσ67.2.2.2.1 (by decide)
    try simp only [rII, rIJ, rIP, rJJ, rJI, rJP, rPP, rPI, rPJ, g1, g2, g3, g4, g5, g6, g7, g8, Nat.reduceEqDiff, Nat.reduceAdd, false_and, and_false, true_and, and_true, reduceIte, nZ0, nZ1, hdm, hmd, hdj, hjd, sσ67_6.1, sσ67_6.2, pσ67, cσ65_19.1, cσ65_19.2, cσ66_9.1, cσ66_9.2, cσ66_13.1, cσ66_13.2] at p4
    try simp only [forall_eq, rII, rIJ, rIP, rJJ, rJI, rJP, rPP, rPI, rPJ, g1, g2, g3, g4, g5, g6, g7, g8, Nat.reduceEqDiff, Nat.reduceAdd, false_and, and_false, true_and, and_true, reduceIte, nZ0, nZ1, hdm, hmd, hdj, hjd, sσ67_6.1, sσ67_6.2, pσ67, cσ65_19.1, cσ65_19.2, cσ66_9.1, cσ66_9.2, cσ66_13.1, cσ66_13.2]
    refine ⟨da, by exact hd, hda, ?_⟩
    refine s2_X15_step (o := o) g rσ67 hda (by first | omega | (have tk9 := PsI.tok ps9 (by omega) (by omega); omega)) (by omega) (fun σ69 r70 rσ69 fc p5 => ?_)
    have fσ69 : FdO ra jx rm da o [15, 16] [4, 5, 7, 8, 9, 10, 11, 12, 13, 19] [15, 16] σ σ69 := FdO.tr fσ67 (FdO.mor (fc) (by decide) (by decide) (by decide))
    have cσ69_8 := fc.2.1 8 (by decide)
    have cσ69_9 := fc.2.1 9 (by decide)
    have cσ69_13 := fc.2.1 13 (by decide)
    have cσ69_19 := fc.2.1 19 (by decide)
    have st0 := p5.1; have st1 := p5.2.1; have st2 := p5.2.2.1; have st3 := p5.2.2.2.1
    have okk : ∀ k, k ≠ 17 → gI σ69 da k = gI σ da k := fun k hk => by rw [p5.2.2.2.2 k hk]; exact okk k hk
    have pf9 := PsI.frj ps9 (FdO.fj fc) (by decide)
    have ps9 := pf9.1; have cq9 := pf9.2
    have n19 := (fc.2.1 19 (by decide)).1
    have le6 := PsI.le ps9
    have s6n := (fσ69.2.1 6 (by decide)).1
    obtain ⟨dq9, ag8, pg9, de8⟩ := PgI.putE (d' := dp (gI σ da 17) + 1) pg9 (by omega) st1 st2 st3 de9 (by omega) (by omega) (Or.inr (Or.inl ⟨by omega, by omega, by omega⟩))
    have ag9 : ∀ pc, pc ≤ gI σ da 17 → dq9 pc = dp pc := fun pc hp => (ag8 pc (by omega)).trans (ag9 pc hp)
    have de9 := de8
    have sσ69_6 := fσ69.2.1 6 (by decide)
    have pσ69 := fσ69.2.2.2.1 (by decide)
    try simp only [rII, rIJ, rIP, rJJ, rJI, rJP, rPP, rPI, rPJ, g1, g2, g3, g4, g5, g6, g7, g8, Nat.reduceEqDiff, Nat.reduceAdd, false_and, and_false, true_and, and_true, reduceIte, nZ0, nZ1, hdm, hmd, hdj, hjd, sσ69_6.1, sσ69_6.2, pσ69, cσ65_19.1, cσ65_19.2, cσ66_9.1, cσ66_9.2, cσ66_13.1, cσ66_13.2, cσ69_8.1, cσ69_8.2, cσ69_9.1, cσ69_9.2, cσ69_13.1, cσ69_13.2, cσ69_19.1, cσ69_19.2] at p5
    try simp only [forall_eq, rII, rIJ, rIP, rJJ, rJI, rJP, rPP, rPI, rPJ, g1, g2, g3, g4, g5, g6, g7, g8, Nat.reduceEqDiff, Nat.reduceAdd, false_and, and_false, true_and, and_true, reduceIte, nZ0, nZ1, hdm, hmd, hdj, hjd, sσ69_6.1, sσ69_6.2, pσ69, cσ65_19.1, cσ65_19.2, cσ66_9.1, cσ66_9.2, cσ66_13.1, cσ66_13.2, cσ69_8.1, cσ69_8.2, cσ69_9.1, cσ69_9.2, cσ69_13.1, cσ69_13.2, cσ69_19.1, cσ69_19.2]
    have q6 := rσ67.2.1 19; simp only [rgS, hdm, hmd, hdj, hjd] at q6
    refine ⟨by (first | omega | with_reducible assumption | (unfold rng; omega) | (unfold rng; (repeat' split) <;> omega) | decide), ?_⟩
    unfold w_X16_single_201
    try simp only [forall_eq, rII, rIJ, rIP, rJJ, rJI, rJP, rPP, rPI, rPJ, g1, g2, g3, g4, g5, g6, g7, g8, Nat.reduceEqDiff, Nat.reduceAdd, false_and, and_false, true_and, and_true, reduceIte, nZ0, nZ1, hdm, hmd, hdj, hjd, sσ69_6.1, sσ69_6.2, pσ69, cσ65_19.1, cσ65_19.2, cσ66_9.1, cσ66_9.2, cσ66_13.1, cσ66_13.2, cσ69_8.1, cσ69_8.2, cσ69_9.1, cσ69_9.2, cσ69_13.1, cσ69_13.2, cσ69_19.1, cσ69_19.2]
    refine hQ _ _ ?_ ?_ ?_
    · refine Rg.sI g ?_ (by simp only [rgS]; first | with_reducible exact nZ_rng _ | with_reducible exact nB_rng _ | with_reducible exact wr_rng _ | with_reducible exact i32any _ | (first | omega | with_reducible assumption | (unfold rng; omega) | (unfold rng; (repeat' split) <;> omega) | decide)); exact rσ69
    · refine FdO.sI g ?_ hda (by decide); exact fσ69
    · first | exact ⟨⟨dq9, ag9, pg9, by omega⟩, ps9, by omega, by omega, by omega, okk⟩ | (exact ⟨⟨dq9, ag9, PgI.fr (K := []) (S := [19]) pg9 hda (by repeat (first | exact Fr.rf | assumption | refine Fr.aJ g ?_ (by decide) | refine Fr.aI g ?_ (by decide) | refine Fr.sI g ?_ (by decide) | refine Fr.sJ g ?_ (by decide))) (by decide), by (try simp only [rII, rIJ, rIP, rJJ, rJI, rJP, rPP, rPI, rPJ, g1, g2, g3, g4, g5, g6, g7, g8, Nat.reduceEqDiff, Nat.reduceAdd, false_and, and_false, true_and, and_true, reduceIte, nZ0, nZ1, hdm, hmd, hdj, hjd, sσ69_6.1, sσ69_6.2, pσ69, cσ65_19.1, cσ65_19.2, cσ66_9.1, cσ66_9.2, cσ66_13.1, cσ66_13.2, cσ69_8.1, cσ69_8.2, cσ69_9.1, cσ69_9.2, cσ69_13.1, cσ69_13.2, cσ69_19.1, cσ69_19.2]) <;> omega⟩, PsI19 ps9, by rw [cn19]; (try simp only [rII, rIJ, rIP, rJJ, rJI, rJP, rPP, rPI, rPJ, g1, g2, g3, g4, g5, g6, g7, g8, Nat.reduceEqDiff, Nat.reduceAdd, false_and, and_false, true_and, and_true, reduceIte, nZ0, nZ1, hdm, hmd, hdj, hjd, sσ69_6.1, sσ69_6.2, pσ69, cσ65_19.1, cσ65_19.2, cσ66_9.1, cσ66_9.2, cσ66_13.1, cσ66_13.2, cσ69_8.1, cσ69_8.2, cσ69_9.1, cσ69_9.2, cσ69_13.1, cσ69_13.2, cσ69_19.1, cσ69_19.2]) <;> omega, by (try simp only [rII, rIJ, rIP, rJJ, rJI, rJP, rPP, rPI, rPJ, g1, g2, g3, g4, g5, g6, g7, g8, Nat.reduceEqDiff, Nat.reduceAdd, false_and, and_false, true_and, and_true, reduceIte, nZ0, nZ1, hdm, hmd, hdj, hjd, sσ69_6.1, sσ69_6.2, pσ69, cσ65_19.1, cσ65_19.2, cσ66_9.1, cσ66_9.2, cσ66_13.1, cσ66_13.2, cσ69_8.1, cσ69_8.2, cσ69_9.1, cσ69_9.2, cσ69_13.1, cσ69_13.2, cσ69_19.1, cσ69_19.2]) <;> omega, by (try simp only [rII, rIJ, rIP, rJJ, rJI, rJP, rPP, rPI, rPJ, g1, g2, g3, g4, g5, g6, g7, g8, Nat.reduceEqDiff, Nat.reduceAdd, false_and, and_false, true_and, and_true, reduceIte, nZ0, nZ1, hdm, hmd, hdj, hjd, sσ69_6.1, sσ69_6.2, pσ69, cσ65_19.1, cσ65_19.2, cσ66_9.1, cσ66_9.2, cσ66_13.1, cσ66_13.2, cσ69_8.1, cσ69_8.2, cσ69_9.1, cσ69_9.2, cσ69_13.1, cσ69_13.2, cσ69_19.1, cσ69_19.2]) <;> omega, fun k hk => by (try simp only [rII, rIJ, rIP, rJJ, rJI, rJP, rPP, rPI, rPJ, g1, g2, g3, g4, g5, g6, g7, g8, Nat.reduceEqDiff, Nat.reduceAdd, false_and, and_false, true_and, and_true, reduceIte, nZ0, nZ1, hdm, hmd, hdj, hjd, sσ69_6.1, sσ69_6.2, pσ69, cσ65_19.1, cσ65_19.2, cσ66_9.1, cσ66_9.2, cσ66_13.1, cσ66_13.2, cσ69_8.1, cσ69_8.2, cσ69_9.1, cσ69_9.2, cσ69_13.1, cσ69_13.2, cσ69_19.1, cσ69_19.2]) <;> exact okk k hk⟩)
  · rename_i hc10
    skip
    unfold w_X16_single_13
    try simp only [forall_eq, rII, rIJ, rIP, rJJ, rJI, rJP, rPP, rPI, rPJ, g1, g2, g3, g4, g5, g6, g7, g8, Nat.reduceEqDiff, Nat.reduceAdd, false_and, and_false, true_and, and_true, reduceIte, nZ0, nZ1, hdm, hmd, hdj, hjd, sσ65_6.1, sσ65_6.2, pσ65, cσ65_19.1, cσ65_19.2]
    split
    · rename_i hc19
      skip
      unfold w_X16_single_71
      try simp only [forall_eq, rII, rIJ, rIP, rJJ, rJI, rJP, rPP, rPI, rPJ, g1, g2, g3, g4, g5, g6, g7, g8, Nat.reduceEqDiff, Nat.reduceAdd, false_and, and_false, true_and, and_true, reduceIte, nZ0, nZ1, hdm, hmd, hdj, hjd, sσ65_6.1, sσ65_6.2, pσ65, cσ65_19.1, cσ65_19.2]
      split
      · rename_i hc77
        skip
        unfold w_X16_single_108
        try simp only [forall_eq, rII, rIJ, rIP, rJJ, rJI, rJP, rPP, rPI, rPJ, g1, g2, g3, g4, g5, g6, g7, g8, Nat.reduceEqDiff, Nat.reduceAdd, false_and, and_false, true_and, and_true, reduceIte, nZ0, nZ1, hdm, hmd, hdj, hjd, sσ65_6.1, sσ65_6.2, pσ65, cσ65_19.1, cσ65_19.2]
        split
        · rename_i hc113
          skip
          unfold w_X16_single_136
          try simp only [forall_eq, rII, rIJ, rIP, rJJ, rJI, rJP, rPP, rPI, rPJ, g1, g2, g3, g4, g5, g6, g7, g8, Nat.reduceEqDiff, Nat.reduceAdd, false_and, and_false, true_and, and_true, reduceIte, nZ0, nZ1, hdm, hmd, hdj, hjd, sσ65_6.1, sσ65_6.2, pσ65, cσ65_19.1, cσ65_19.2]
          refine s2_X16_isWord g rσ65 (by first | exact ps9 | exact PsI19 ps9) (fun σ72 r73 rσ72 fc p7 => ?_) (fun σx E rx fx px => hX _ _ rx (FdO.tr fσ65 (FdO.mor (Fr.d fx hda (by decide)) (by decide) (by decide) (by decide))) px)
          have fσ72 : FdO ra jx rm da o [15, 16] [4, 5, 7, 8, 9, 10, 11, 12, 13, 19] [15, 16] σ σ72 := FdO.tr fσ65 (FdO.mor (Fr.d fc hda (by decide)) (by decide) (by decide) (by decide))
          have cσ72_19 := fc.2.1 19 (by decide)
          have ps9 := p7.1; have cq9 := p7.2
          have pg9 := PgI.fr pg9 hda fc (by decide)
          have n17 := congrFun (Fr.ob fc hda (by decide)) 17
          (try simp only [rII, rIJ, rIP, rJJ, rJI, rJP, rPP, rPI, rPJ, g1, g2, g3, g4, g5, g6, g7, g8, Nat.reduceEqDiff, Nat.reduceAdd, false_and, and_false, true_and, and_true, reduceIte, nZ0, nZ1, hdm, hmd, hdj, hjd, sσ65_6.1, sσ65_6.2, pσ65, cσ65_19.1, cσ65_19.2] at n17)
          have okk : ∀ k, k ≠ 17 → gI σ72 da k = gI σ da k := fun k hk => (congrFun (Fr.ob fc hda (by decide)) k).trans (by (try simp only [rII, rIJ, rIP, rJJ, rJI, rJP, rPP, rPI, rPJ, g1, g2, g3, g4, g5, g6, g7, g8, Nat.reduceEqDiff, Nat.reduceAdd, false_and, and_false, true_and, and_true, reduceIte, nZ0, nZ1, hdm, hmd, hdj, hjd, sσ65_6.1, sσ65_6.2, pσ65, cσ65_19.1, cσ65_19.2]) <;> exact okk k hk)
          have n19 := (fc.2.1 19 (by decide)).1
          (try simp only [rII, rIJ, rIP, rJJ, rJI, rJP, rPP, rPI, rPJ, g1, g2, g3, g4, g5, g6, g7, g8, Nat.reduceEqDiff, Nat.reduceAdd, false_and, and_false, true_and, and_true, reduceIte, nZ0, nZ1, hdm, hmd, hdj, hjd, sσ65_6.1, sσ65_6.2, pσ65, cσ65_19.1, cσ65_19.2] at n19)
          have le6 := PsI.le ps9
          have s6n := (fσ72.2.1 6 (by decide)).1
          have ded : dp (gI σ72 da 17) = dp (gI σ da 17) := by rw [n17]; exact de9
          have de9 := ded
          have sσ72_6 := fσ72.2.1 6 (by decide)
          have pσ72 := fσ72.2.2.2.1 (by decide)
          try simp only [rII, rIJ, rIP, rJJ, rJI, rJP, rPP, rPI, rPJ, g1, g2, g3, g4, g5, g6, g7, g8, Nat.reduceEqDiff, Nat.reduceAdd, false_and, and_false, true_and, and_true, reduceIte, nZ0, nZ1, hdm, hmd, hdj, hjd, sσ72_6.1, sσ72_6.2, pσ72, cσ65_19.1, cσ65_19.2, cσ72_19.1, cσ72_19.2] at p7
          try simp only [forall_eq, rII, rIJ, rIP, rJJ, rJI, rJP, rPP, rPI, rPJ, g1, g2, g3, g4, g5, g6, g7, g8, Nat.reduceEqDiff, Nat.reduceAdd, false_and, and_false, true_and, and_true, reduceIte, nZ0, nZ1, hdm, hmd, hdj, hjd, sσ72_6.1, sσ72_6.2, pσ72, cσ65_19.1, cσ65_19.2, cσ72_19.1, cσ72_19.2]
          split
          · rename_i hc142
            skip
            unfold w_X16_single_162
            try simp only [forall_eq, rII, rIJ, rIP, rJJ, rJI, rJP, rPP, rPI, rPJ, g1, g2, g3, g4, g5, g6, g7, g8, Nat.reduceEqDiff, Nat.reduceAdd, false_and, and_false, true_and, and_true, reduceIte, nZ0, nZ1, hdm, hmd, hdj, hjd, sσ72_6.1, sσ72_6.2, pσ72, cσ65_19.1, cσ65_19.2, cσ72_19.1, cσ72_19.2]
            refine s2_X16_seeName g rσ72 (by first | exact ps9 | exact PsI19 ps9) (fun σ74 r75 rσ74 fc p8 => ?_) (fun σx E rx fx px => hX _ _ rx (FdO.tr fσ72 (FdO.mor (Fr.d fx hda (by decide)) (by decide) (by decide) (by decide))) px)
            have fσ74 : FdO ra jx rm da o [15, 16] [4, 5, 7, 8, 9, 10, 11, 12, 13, 19] [15, 16] σ σ74 := FdO.tr fσ72 (FdO.mor (Fr.d fc hda (by decide)) (by decide) (by decide) (by decide))
            have cσ74_19 := fc.2.1 19 (by decide)
            have ps9 := p8.1; have cq9 := p8.2
            have pg9 := PgI.fr pg9 hda fc (by decide)
            have n17 := congrFun (Fr.ob fc hda (by decide)) 17
            (try simp only [rII, rIJ, rIP, rJJ, rJI, rJP, rPP, rPI, rPJ, g1, g2, g3, g4, g5, g6, g7, g8, Nat.reduceEqDiff, Nat.reduceAdd, false_and, and_false, true_and, and_true, reduceIte, nZ0, nZ1, hdm, hmd, hdj, hjd, sσ72_6.1, sσ72_6.2, pσ72, cσ65_19.1, cσ65_19.2, cσ72_19.1, cσ72_19.2] at n17)
            have okk : ∀ k, k ≠ 17 → gI σ74 da k = gI σ da k := fun k hk => (congrFun (Fr.ob fc hda (by decide)) k).trans (by (try simp only [rII, rIJ, rIP, rJJ, rJI, rJP, rPP, rPI, rPJ, g1, g2, g3, g4, g5, g6, g7, g8, Nat.reduceEqDiff, Nat.reduceAdd, false_and, and_false, true_and, and_true, reduceIte, nZ0, nZ1, hdm, hmd, hdj, hjd, sσ72_6.1, sσ72_6.2, pσ72, cσ65_19.1, cσ65_19.2, cσ72_19.1, cσ72_19.2]) <;> exact okk k hk)
            have n19 := (fc.2.1 19 (by decide)).1
            (try simp only [rII, rIJ, rIP, rJJ, rJI, rJP, rPP, rPI, rPJ, g1, g2, g3, g4, g5, g6, g7, g8, Nat.reduceEqDiff, Nat.reduceAdd, false_and, and_false, true_and, and_true, reduceIte, nZ0, nZ1, hdm, hmd, hdj, hjd, sσ72_6.1, sσ72_6.2, pσ72, cσ65_19.1, cσ65_19.2, cσ72_19.1, cσ72_19.2] at n19)
            have le6 := PsI.le ps9
            have s6n := (fσ74.2.1 6 (by decide)).1
            have ded : dp (gI σ74 da 17) = dp (gI σ da 17) := by rw [n17]; exact de9
            have de9 := ded
            have sσ74_6 := fσ74.2.1 6 (by decide)
            have pσ74 := fσ74.2.2.2.1 (by decide)
            try simp only [rII, rIJ, rIP, rJJ, rJI, rJP, rPP, rPI, rPJ, g1, g2, g3, g4, g5, g6, g7, g8, Nat.reduceEqDiff, Nat.reduceAdd, false_and, and_false, true_and, and_true, reduceIte, nZ0, nZ1, hdm, hmd, hdj, hjd, sσ74_6.1, sσ74_6.2, pσ74, cσ65_19.1, cσ65_19.2, cσ72_19.1, cσ72_19.2, cσ74_19.1, cσ74_19.2] at p8
            try simp only [forall_eq, rII, rIJ, rIP, rJJ, rJI, rJP, rPP, rPI, rPJ, g1, g2, g3, g4, g5, g6, g7, g8, Nat.reduceEqDiff, Nat.reduceAdd, false_and, and_false, true_and, and_true, reduceIte, nZ0, nZ1, hdm, hmd, hdj, hjd, sσ74_6.1, sσ74_6.2, pσ74, cσ65_19.1, cσ65_19.2, cσ72_19.1, cσ72_19.2, cσ74_19.1, cσ74_19.2]
            refine ⟨da, by exact hd, hda, ?_⟩
            refine s2_X15_column g rσ74 hda h1 (fun r78 p9 => ?_)
            try simp only [rII, rIJ, rIP, rJJ, rJI, rJP, rPP, rPI, rPJ, g1, g2, g3, g4, g5, g6, g7, g8, Nat.reduceEqDiff, Nat.reduceAdd, false_and, and_false, true_and, and_true, reduceIte, nZ0, nZ1, hdm, hmd, hdj, hjd, sσ74_6.1, sσ74_6.2, pσ74, cσ65_19.1, cσ65_19.2, cσ72_19.1, cσ72_19.2, cσ74_19.1, cσ74_19.2] at p9
            try simp only [forall_eq, rII, rIJ, rIP, rJJ, rJI, rJP, rPP, rPI, rPJ, g1, g2, g3, g4, g5, g6, g7, g8, Nat.reduceEqDiff, Nat.reduceAdd, false_and, and_false, true_and, and_true, reduceIte, nZ0, nZ1, hdm, hmd, hdj, hjd, sσ74_6.1, sσ74_6.2, pσ74, cσ65_19.1, cσ65_19.2, cσ72_19.1, cσ72_19.2, cσ74_19.1, cσ74_19.2]
            have pc9 := p9
            split
            · rename_i hc177
              skip
              unfold w_X16_single_186
              try simp only [forall_eq, rII, rIJ, rIP, rJJ, rJI, rJP, rPP, rPI, rPJ, g1, g2, g3, g4, g5, g6, g7, g8, Nat.reduceEqDiff, Nat.reduceAdd, false_and, and_false, true_and, and_true, reduceIte, nZ0, nZ1, hdm, hmd, hdj, hjd, sσ74_6.1, sσ74_6.2, pσ74, cσ65_19.1, cσ65_19.2, cσ72_19.1, cσ72_19.2, cσ74_19.1, cσ74_19.2]
              refine ⟨da, by exact hd, hda, ?_⟩
              refine s2_X15_step (o := o) g rσ74 hda (by first | omega | (have tk9 := PsI.tok ps9 (by omega) (by omega); omega)) (by omega) (fun σ80 r81 rσ80 fc p10 => ?_)
              have fσ80 : FdO ra jx rm da o [15, 16] [4, 5, 7, 8, 9, 10, 11, 12, 13, 19] [15, 16] σ σ80 := FdO.tr fσ74 (FdO.mor (fc) (by decide) (by decide) (by decide))
              have cσ80_8 := fc.2.1 8 (by decide)
              have cσ80_9 := fc.2.1 9 (by decide)
              have cσ80_13 := fc.2.1 13 (by decide)
              have cσ80_19 := fc.2.1 19 (by decide)
              have st0 := p10.1; have st1 := p10.2.1; have st2 := p10.2.2.1; have st3 := p10.2.2.2.1
              have okk : ∀ k, k ≠ 17 → gI σ80 da k = gI σ da k := fun k hk => by rw [p10.2.2.2.2 k hk]; exact okk k hk
              have pf9 := PsI.frj ps9 (FdO.fj fc) (by decide)
              have ps9 := pf9.1; have cq9 := pf9.2
              have n19 := (fc.2.1 19 (by decide)).1
              have le6 := PsI.le ps9
              have s6n := (fσ80.2.1 6 (by decide)).1
              obtain ⟨dq9, ag8, pg9, de8⟩ := PgI.putE (d' := dp (gI σ da 17) + 1) pg9 (by omega) st1 st2 st3 de9 (by omega) (by omega) (Or.inl ⟨by omega, by omega, fun _ => c_arg (by omega)⟩)
              have ag9 : ∀ pc, pc ≤ gI σ da 17 → dq9 pc = dp pc := fun pc hp => (ag8 pc (by omega)).trans (ag9 pc hp)
              have de9 := de8
              have sσ80_6 := fσ80.2.1 6 (by decide)
              have pσ80 := fσ80.2.2.2.1 (by decide)
              try simp only [rII, rIJ, rIP, rJJ, rJI, rJP, rPP, rPI, rPJ, g1, g2, g3, g4, g5, g6, g7, g8, Nat.reduceEqDiff, Nat.reduceAdd, false_and, and_false, true_and, and_true, reduceIte, nZ0, nZ1, hdm, hmd, hdj, hjd, sσ80_6.1, sσ80_6.2, pσ80, cσ65_19.1, cσ65_19.2, cσ72_19.1, cσ72_19.2, cσ74_19.1, cσ74_19.2, cσ80_8.1, cσ80_8.2, cσ80_9.1, cσ80_9.2, cσ80_13.1, cσ80_13.2, cσ80_19.1, cσ80_19.2] at p10
              try simp only [forall_eq, rII, rIJ, rIP, rJJ, rJI, rJP, rPP, rPI, rPJ, g1, g2, g3, g4, g5, g6, g7, g8, Nat.reduceEqDiff, Nat.reduceAdd, false_and, and_false, true_and, and_true, reduceIte, nZ0, nZ1, hdm, hmd, hdj, hjd, sσ80_6.1, sσ80_6.2, pσ80, cσ65_19.1, cσ65_19.2, cσ72_19.1, cσ72_19.2, cσ74_19.1, cσ74_19.2, cσ80_8.1, cσ80_8.2, cσ80_9.1, cσ80_9.2, cσ80_13.1, cσ80_13.2, cσ80_19.1, cσ80_19.2]
              refine s2_X16_take g rσ80 (by first | exact ps9 | exact PsI19 ps9) (by omega) (by omega) (fun σ82 _ rσ82 fc p11 => ?_)
              have fσ82 : FdO ra jx rm da o [15, 16] [4, 5, 7, 8, 9, 10, 11, 12, 13, 19] [15, 16] σ σ82 := FdO.tr fσ80 (FdO.mor (Fr.d fc hda (by decide)) (by decide) (by decide) (by decide))
              have cσ82_9 := fc.2.1 9 (by decide)
              have cσ82_13 := fc.2.1 13 (by decide)
              have cσ82_19 := fc.2.1 19 (by decide)
              have ps9 := p11.1; have cq9 := p11.2
              have pg9 := PgI.fr pg9 hda fc (by decide)
              have n17 := congrFun (Fr.ob fc hda (by decide)) 17
              (try simp only [rII, rIJ, rIP, rJJ, rJI, rJP, rPP, rPI, rPJ, g1, g2, g3, g4, g5, g6, g7, g8, Nat.reduceEqDiff, Nat.reduceAdd, false_and, and_false, true_and, and_true, reduceIte, nZ0, nZ1, hdm, hmd, hdj, hjd, sσ80_6.1, sσ80_6.2, pσ80, cσ65_19.1, cσ65_19.2, cσ72_19.1, cσ72_19.2, cσ74_19.1, cσ74_19.2, cσ80_8.1, cσ80_8.2, cσ80_9.1, cσ80_9.2, cσ80_13.1, cσ80_13.2, cσ80_19.1, cσ80_19.2] at n17)
              have okk : ∀ k, k ≠ 17 → gI σ82 da k = gI σ da k := fun k hk => (congrFun (Fr.ob fc hda (by decide)) k).trans (by (try simp only [rII, rIJ, rIP, rJJ, rJI, rJP, rPP, rPI, rPJ, g1, g2, g3, g4, g5, g6, g7, g8, Nat.reduceEqDiff, Nat.reduceAdd, false_and, and_false, true_and, and_true, reduceIte, nZ0, nZ1, hdm, hmd, hdj, hjd, sσ80_6.1, sσ80_6.2, pσ80, cσ65_19.1, cσ65_19.2, cσ72_19.1, cσ72_19.2, cσ74_19.1, cσ74_19.2, cσ80_8.1, cσ80_8.2, cσ80_9.1, cσ80_9.2, cσ80_13.1, cσ80_13.2, cσ80_19.1, cσ80_19.2]) <;> exact okk k hk)
              have n19 := (fc.2.1 19 (by decide)).1
              have le6 := PsI.le ps9
              have s6n := (fσ82.2.1 6 (by decide)).1
              have ded : dq9 (gI σ82 da 17) = dp (gI σ da 17) + 1 := by rw [n17]; exact de9
              have de9 := ded
              have sσ82_6 := fσ82.2.1 6 (by decide)
              have pσ82 := fσ82.2.2.2.1 (by decide)
              try simp only [rII, rIJ, rIP, rJJ, rJI, rJP, rPP, rPI, rPJ, g1, g2, g3, g4, g5, g6, g7, g8, Nat.reduceEqDiff, Nat.reduceAdd, false_and, and_false, true_and, and_true, reduceIte, nZ0, nZ1, hdm, hmd, hdj, hjd, sσ82_6.1, sσ82_6.2, pσ82, cσ65_19.1, cσ65_19.2, cσ72_19.1, cσ72_19.2, cσ74_19.1, cσ74_19.2, cσ80_8.1, cσ80_8.2, cσ80_9.1, cσ80_9.2, cσ80_13.1, cσ80_13.2, cσ80_19.1, cσ80_19.2, cσ82_9.1, cσ82_9.2, cσ82_13.1, cσ82_13.2, cσ82_19.1, cσ82_19.2] at p11
              try simp only [forall_eq, rII, rIJ, rIP, rJJ, rJI, rJP, rPP, rPI, rPJ, g1, g2, g3, g4, g5, g6, g7, g8, Nat.reduceEqDiff, Nat.reduceAdd, false_and, and_false, true_and, and_true, reduceIte, nZ0, nZ1, hdm, hmd, hdj, hjd, sσ82_6.1, sσ82_6.2, pσ82, cσ65_19.1, cσ65_19.2, cσ72_19.1, cσ72_19.2, cσ74_19.1, cσ74_19.2, cσ80_8.1, cσ80_8.2, cσ80_9.1, cσ80_9.2, cσ80_13.1, cσ80_13.2, cσ80_19.1, cσ80_19.2, cσ82_9.1, cσ82_9.2, cσ82_13.1, cσ82_13.2, cσ82_19.1, cσ82_19.2]
              unfold w_X16_single_201
              try simp only [forall_eq, rII, rIJ, rIP, rJJ, rJI, rJP, rPP, rPI, rPJ, g1, g2, g3, g4, g5, g6, g7, g8, Nat.reduceEqDiff, Nat.reduceAdd, false_and, and_false, true_and, and_true, reduceIte, nZ0, nZ1, hdm, hmd, hdj, hjd, sσ82_6.1, sσ82_6.2, pσ82, cσ65_19.1, cσ65_19.2, cσ72_19.1, cσ72_19.2, cσ74_19.1, cσ74_19.2, cσ80_8.1, cσ80_8.2, cσ80_9.1, cσ80_9.2, cσ80_13.1, cσ80_13.2, cσ80_19.1, cσ80_19.2, cσ82_9.1, cσ82_9.2, cσ82_13.1, cσ82_13.2, cσ82_19.1, cσ82_19.2]
              refine hQ _ _ ?_ ?_ ?_
              · exact rσ82
              · exact fσ82
              · first | exact ⟨⟨dq9, ag9, pg9, by omega⟩, ps9, by omega, by omega, by omega, okk⟩ | (exact ⟨⟨dq9, ag9, PgI.fr (K := []) (S := [19]) pg9 hda (by repeat (first | exact Fr.rf | assumption | refine Fr.aJ g ?_ (by decide) | refine Fr.aI g ?_ (by decide) | refine Fr.sI g ?_ (by decide) | refine Fr.sJ g ?_ (by decide))) (by decide), by (try simp only [rII, rIJ, rIP, rJJ, rJI, rJP, rPP, rPI, rPJ, g1, g2, g3, g4, g5, g6, g7, g8, Nat.reduceEqDiff, Nat.reduceAdd, false_and, and_false, true_and, and_true, reduceIte, nZ0, nZ1, hdm, hmd, hdj, hjd, sσ82_6.1, sσ82_6.2, pσ82, cσ65_19.1, cσ65_19.2, cσ72_19.1, cσ72_19.2, cσ74_19.1, cσ74_19.2, cσ80_8.1, cσ80_8.2, cσ80_9.1, cσ80_9.2, cσ80_13.1, cσ80_13.2, cσ80_19.1, cσ80_19.2, cσ82_9.1, cσ82_9.2, cσ82_13.1, cσ82_13.2, cσ82_19.1, cσ82_19.2]) <;> omega⟩, PsI19 ps9, by rw [cn19]; (try simp only [rII, rIJ, rIP, rJJ, rJI, rJP, rPP, rPI, rPJ, g1, g2, g3, g4, g5, g6, g7, g8, Nat.reduceEqDiff, Nat.reduceAdd, false_and, and_false, true_and, and_true, reduceIte, nZ0, nZ1, hdm, hmd, hdj, hjd, sσ82_6.1, sσ82_6.2, pσ82, cσ65_19.1, cσ65_19.2, cσ72_19.1, cσ72_19.2, cσ74_19.1, cσ74_19.2, cσ80_8.1, cσ80_8.2, cσ80_9.1, cσ80_9.2, cσ80_13.1, cσ80_13.2, cσ80_19.1, cσ80_19.2, cσ82_9.1, cσ82_9.2, cσ82_13.1, cσ82_13.2, cσ82_19.1, cσ82_19.2]) <;> omega, by (try simp only [rII, rIJ, rIP, rJJ, rJI, rJP, rPP, rPI, rPJ, g1, g2, g3, g4, g5, g6, g7, g8, Nat.reduceEqDiff, Nat.reduceAdd, false_and, and_false, true_and, and_true, reduceIte, nZ0, nZ1, hdm, hmd, hdj, hjd, sσ82_6.1, sσ82_6.2, pσ82, cσ65_19.1, cσ65_19.2, cσ72_19.1, cσ72_19.2, cσ74_19.1, cσ74_19.2, cσ80_8.1, cσ80_8.2, cσ80_9.1, cσ80_9.2, cσ80_13.1, cσ80_13.2, cσ80_19.1, cσ80_19.2, cσ82_9.1, cσ82_9.2, cσ82_13.1, cσ82_13.2, cσ82_19.1, cσ82_19.2]) <;> omega, by (try simp only [rII, rIJ, rIP, rJJ, rJI, rJP, rPP, rPI, rPJ, g1, g2, g3, g4, g5, g6, g7, g8, Nat.reduceEqDiff, Nat.reduceAdd, false_and, and_false, true_and, and_true, reduceIte, nZ0, nZ1, hdm, hmd, hdj, hjd, sσ82_6.1, sσ82_6.2, pσ82, cσ65_19.1, cσ65_19.2, cσ72_19.1, cσ72_19.2, cσ74_19.1, cσ74_19.2, cσ80_8.1, cσ80_8.2, cσ80_9.1, cσ80_9.2, cσ80_13.1, cσ80_13.2, cσ80_19.1, cσ80_19.2, cσ82_9.1, cσ82_9.2, cσ82_13.1, cσ82_13.2, cσ82_19.1, cσ82_19.2]) <;> omega, fun k hk => by (try simp only [rII, rIJ, rIP, rJJ, rJI, rJP, rPP, rPI, rPJ, g1, g2, g3, g4, g5, g6, g7, g8, Nat.reduceEqDiff, Nat.reduceAdd, false_and, and_false, true_and, and_true, reduceIte, nZ0, nZ1, hdm, hmd, hdj, hjd, sσ82_6.1, sσ82_6.2, pσ82, cσ65_19.1, cσ65_19.2, cσ72_19.1, cσ72_19.2, cσ74_19.1, cσ74_19.2, cσ80_8.1, cσ80_8.2, cσ80_9.1, cσ80_9.2, cσ80_13.1, cσ80_13.2, cσ80_19.1, cσ80_19.2, cσ82_9.1, cσ82_9.2, cσ82_13.1, cσ82_13.2, cσ82_19.1, cσ82_19.2]) <;> exact okk k hk⟩)
            · rename_i hc177
              skip
              unfold w_X16_single_180
              try simp only [forall_eq, rII, rIJ, rIP, rJJ, rJI, rJP, rPP, rPI, rPJ, g1, g2, g3, g4, g5, g6, g7, g8, Nat.reduceEqDiff, Nat.reduceAdd, false_and, and_false, true_and, and_true, reduceIte, nZ0, nZ1, hdm, hmd, hdj, hjd, sσ74_6.1, sσ74_6.2, pσ74, cσ65_19.1, cσ65_19.2, cσ72_19.1, cσ72_19.2, cσ74_19.1, cσ74_19.2]
              refine s_X16_fail g rσ74 (by (try simp only [rII, rIJ, rIP, rJJ, rJI, rJP, rPP, rPI, rPJ, g1, g2, g3, g4, g5, g6, g7, g8, Nat.reduceEqDiff, Nat.reduceAdd, false_and, and_false, true_and, and_true, reduceIte, nZ0, nZ1, hdm, hmd, hdj, hjd, sσ74_6.1, sσ74_6.2, pσ74, cσ65_19.1, cσ65_19.2, cσ72_19.1, cσ72_19.2, cσ74_19.1, cσ74_19.2]) <;> (first | omega | with_reducible assumption | (unfold rng; omega) | (unfold rng; (repeat' split) <;> omega) | decide)) (fun σ83 r84 rσ83 fc p12 => ?_)
              have fσ83 : FdO ra jx rm da o [15, 16] [4, 5, 7, 8, 9, 10, 11, 12, 13, 19] [15, 16] σ σ83 := FdO.tr fσ74 (FdO.mor (Fr.d fc hda (by decide)) (by decide) (by decide) (by decide))
              have cσ83_8 := fc.2.1 8 (by decide)
              have cσ83_9 := fc.2.1 9 (by decide)
              have cσ83_13 := fc.2.1 13 (by decide)
              have cσ83_19 := fc.2.1 19 (by decide)
              have sσ83_6 := fσ83.2.1 6 (by decide)
              have pσ83 := fσ83.2.2.2.1 (by decide)
              try simp only [rII, rIJ, rIP, rJJ, rJI, rJP, rPP, rPI, rPJ, g1, g2, g3, g4, g5, g6, g7, g8, Nat.reduceEqDiff, Nat.reduceAdd, false_and, and_false, true_and, and_true, reduceIte, nZ0, nZ1, hdm, hmd, hdj, hjd, sσ83_6.1, sσ83_6.2, pσ83, cσ65_19.1, cσ65_19.2, cσ72_19.1, cσ72_19.2, cσ74_19.1, cσ74_19.2, cσ83_8.1, cσ83_8.2, cσ83_9.1, cσ83_9.2, cσ83_13.1, cσ83_13.2, cσ83_19.1, cσ83_19.2] at p12
              try simp only [forall_eq, rII, rIJ, rIP, rJJ, rJI, rJP, rPP, rPI, rPJ, g1, g2, g3, g4, g5, g6, g7, g8, Nat.reduceEqDiff, Nat.reduceAdd, false_and, and_false, true_and, and_true, reduceIte, nZ0, nZ1, hdm, hmd, hdj, hjd, sσ83_6.1, sσ83_6.2, pσ83, cσ65_19.1, cσ65_19.2, cσ72_19.1, cσ72_19.2, cσ74_19.1, cσ74_19.2, cσ83_8.1, cσ83_8.2, cσ83_9.1, cσ83_9.2, cσ83_13.1, cσ83_13.2, cσ83_19.1, cσ83_19.2]
              refine ⟨by first | assumption | simp, ?_⟩
              refine hX _ _ ?_ ?_ ?_
              · exact rσ83
              · exact fσ83
              · exact rfl
          · rename_i hc142
            skip
            unfold w_X16_single_145
            try simp only [forall_eq, rII, rIJ, rIP, rJJ, rJI, rJP, rPP, rPI, rPJ, g1, g2, g3, g4, g5, g6, g7, g8, Nat.reduceEqDiff, Nat.reduceAdd, false_and, and_false, true_and, and_true, reduceIte, nZ0, nZ1, hdm, hmd, hdj, hjd, sσ72_6.1, sσ72_6.2, pσ72, cσ65_19.1, cσ65_19.2, cσ72_19.1, cσ72_19.2]
            refine ⟨da, by exact hd, hda, ?_⟩
            refine s2_X15_step (o := o) g rσ72 hda (by first | omega | (have tk9 := PsI.tok ps9 (by omega) (by omega); omega)) (by omega) (fun σ86 r87 rσ86 fc p13 => ?_)
            have fσ86 : FdO ra jx rm da o [15, 16] [4, 5, 7, 8, 9, 10, 11, 12, 13, 19] [15, 16] σ σ86 := FdO.tr fσ72 (FdO.mor (fc) (by decide) (by decide) (by decide))
            have cσ86_8 := fc.2.1 8 (by decide)
            have cσ86_9 := fc.2.1 9 (by decide)
            have cσ86_13 := fc.2.1 13 (by decide)
            have cσ86_19 := fc.2.1 19 (by decide)
            have st0 := p13.1; have st1 := p13.2.1; have st2 := p13.2.2.1; have st3 := p13.2.2.2.1
            have okk : ∀ k, k ≠ 17 → gI σ86 da k = gI σ da k := fun k hk => by rw [p13.2.2.2.2 k hk]; exact okk k hk
            have pf9 := PsI.frj ps9 (FdO.fj fc) (by decide)
            have ps9 := pf9.1; have cq9 := pf9.2
            have n19 := (fc.2.1 19 (by decide)).1
            have le6 := PsI.le ps9
            have s6n := (fσ86.2.1 6 (by decide)).1
            obtain ⟨dq9, ag8, pg9, de8⟩ := PgI.putE (d' := dp (gI σ da 17) + 1) pg9 (by omega) st1 st2 st3 de9 (by omega) (by omega) (Or.inl ⟨by omega, by omega, fun q => absurd q (by decide)⟩)
            have ag9 : ∀ pc, pc ≤ gI σ da 17 → dq9 pc = dp pc := fun pc hp => (ag8 pc (by omega)).trans (ag9 pc hp)
            have de9 := de8
            have sσ86_6 := fσ86.2.1 6 (by decide)
            have pσ86 := fσ86.2.2.2.1 (by decide)
            try simp only [rII, rIJ, rIP, rJJ, rJI, rJP, rPP, rPI, rPJ, g1, g2, g3, g4, g5, g6, g7, g8, Nat.reduceEqDiff, Nat.reduceAdd, false_and, and_false, true_and, and_true, reduceIte, nZ0, nZ1, hdm, hmd, hdj, hjd, sσ86_6.1, sσ86_6.2, pσ86, cσ65_19.1, cσ65_19.2, cσ72_19.1, cσ72_19.2, cσ86_8.1, cσ86_8.2, cσ86_9.1, cσ86_9.2, cσ86_13.1, cσ86_13.2, cσ86_19.1, cσ86_19.2] at p13
            try simp only [forall_eq, rII, rIJ, rIP, rJJ, rJI, rJP, rPP, rPI, rPJ, g1, g2, g3, g4, g5, g6, g7, g8, Nat.reduceEqDiff, Nat.reduceAdd, false_and, and_false, true_and, and_true, reduceIte, nZ0, nZ1, hdm, hmd, hdj, hjd, sσ86_6.1, sσ86_6.2, pσ86, cσ65_19.1, cσ65_19.2, cσ72_19.1, cσ72_19.2, cσ86_8.1, cσ86_8.2, cσ86_9.1, cσ86_9.2, cσ86_13.1, cσ86_13.2, cσ86_19.1, cσ86_19.2]
            refine s2_X16_take g rσ86 (by first | exact ps9 | exact PsI19 ps9) (by omega) (by omega) (fun σ88 _ rσ88 fc p14 => ?_)
            have fσ88 : FdO ra jx rm da o [15, 16] [4, 5, 7, 8, 9, 10, 11, 12, 13, 19] [15, 16] σ σ88 := FdO.tr fσ86 (FdO.mor (Fr.d fc hda (by decide)) (by decide) (by decide) (by decide))
            have cσ88_9 := fc.2.1 9 (by decide)
            have cσ88_13 := fc.2.1 13 (by decide)
            have cσ88_19 := fc.2.1 19 (by decide)
            have ps9 := p14.1; have cq9 := p14.2
            have pg9 := PgI.fr pg9 hda fc (by decide)
            have n17 := congrFun (Fr.ob fc hda (by decide)) 17
            (try simp only [rII, rIJ, rIP, rJJ, rJI, rJP, rPP, rPI, rPJ, g1, g2, g3, g4, g5, g6, g7, g8, Nat.reduceEqDiff, Nat.reduceAdd, false_and, and_false, true_and, and_true, reduceIte, nZ0, nZ1, hdm, hmd, hdj, hjd, sσ86_6.1, sσ86_6.2, pσ86, cσ65_19.1, cσ65_19.2, cσ72_19.1, cσ72_19.2, cσ86_8.1, cσ86_8.2, cσ86_9.1, cσ86_9.2, cσ86_13.1, cσ86_13.2, cσ86_19.1, cσ86_19.2] at n17)
            have okk : ∀ k, k ≠ 17 → gI σ88 da k = gI σ da k := fun k hk => (congrFun (Fr.ob fc hda (by decide)) k).trans (by (try simp only [rII, rIJ, rIP, rJJ, rJI, rJP, rPP, rPI, rPJ, g1, g2, g3, g4, g5, g6, g7, g8, Nat.reduceEqDiff, Nat.reduceAdd, false_and, and_false, true_and, and_true, reduceIte, nZ0, nZ1, hdm, hmd, hdj, hjd, sσ86_6.1, sσ86_6.2, pσ86, cσ65_19.1, cσ65_19.2, cσ72_19.1, cσ72_19.2, cσ86_8.1, cσ86_8.2, cσ86_9.1, cσ86_9.2, cσ86_13.1, cσ86_13.2, cσ86_19.1, cσ86_19.2]) <;> exact okk k hk)
            have n19 := (fc.2.1 19 (by decide)).1
            have le6 := PsI.le ps9
            have s6n := (fσ88.2.1 6 (by decide)).1
            have ded : dq9 (gI σ88 da 17) = dp (gI σ da 17) + 1 := by rw [n17]; exact de9
            have de9 := ded
            have sσ88_6 := fσ88.2.1 6 (by decide)
            have pσ88 := fσ88.2.2.2.1 (by decide)
            try simp only [rII, rIJ, rIP, rJJ, rJI, rJP, rPP, rPI, rPJ, g1, g2, g3, g4, g5, g6, g7, g8, Nat.reduceEqDiff, Nat.reduceAdd, false_and, and_false, true_and, and_true, reduceIte, nZ0, nZ1, hdm, hmd, hdj, hjd, sσ88_6.1, sσ88_6.2, pσ88, cσ65_19.1, cσ65_19.2, cσ72_19.1, cσ72_19.2, cσ86_8.1, cσ86_8.2, cσ86_9.1, cσ86_9.2, cσ86_13.1, cσ86_13.2, cσ86_19.1, cσ86_19.2, cσ88_9.1, cσ88_9.2, cσ88_13.1, cσ88_13.2, cσ88_19.1, cσ88_19.2] at p14
            try simp only [forall_eq, rII, rIJ, rIP, rJJ, rJI, rJP, rPP, rPI, rPJ, g1, g2, g3, g4, g5, g6, g7, g8, Nat.reduceEqDiff, Nat.reduceAdd, false_and, and_false, true_and, and_true, reduceIte, nZ0, nZ1, hdm, hmd, hdj, hjd, sσ88_6.1, sσ88_6.2, pσ88, cσ65_19.1, cσ65_19.2, cσ72_19.1, cσ72_19.2, cσ86_8.1, cσ86_8.2, cσ86_9.1, cσ86_9.2, cσ86_13.1, cσ86_13.2, cσ86_19.1, cσ86_19.2, cσ88_9.1, cσ88_9.2, cσ88_13.1, cσ88_13.2, cσ88_19.1, cσ88_19.2]
            unfold w_X16_single_201
            try simp only [forall_eq, rII, rIJ, rIP, rJJ, rJI, rJP, rPP, rPI, rPJ, g1, g2, g3, g4, g5, g6, g7, g8, Nat.reduceEqDiff, Nat.reduceAdd, false_and, and_false, true_and, and_true, reduceIte, nZ0, nZ1, hdm, hmd, hdj, hjd, sσ88_6.1, sσ88_6.2, pσ88, cσ65_19.1, cσ65_19.2, cσ72_19.1, cσ72_19.2, cσ86_8.1, cσ86_8.2, cσ86_9.1, cσ86_9.2, cσ86_13.1, cσ86_13.2, cσ86_19.1, cσ86_19.2, cσ88_9.1, cσ88_9.2, cσ88_13.1, cσ88_13.2, cσ88_19.1, cσ88_19.2]
            refine hQ _ _ ?_ ?_ ?_
            · exact rσ88
            · exact fσ88
            · first | exact ⟨⟨dq9, ag9, pg9, by omega⟩, ps9, by omega, by omega, by omega, okk⟩ | (exact ⟨⟨dq9, ag9, PgI.fr (K := []) (S := [19]) pg9 hda (by repeat (first | exact Fr.rf | assumption | refine Fr.aJ g ?_ (by decide) | refine Fr.aI g ?_ (by decide) | refine Fr.sI g ?_ (by decide) | refine Fr.sJ g ?_ (by decide))) (by decide), by (try simp only [rII, rIJ, rIP, rJJ, rJI, rJP, rPP, rPI, rPJ, g1, g2, g3, g4, g5, g6, g7, g8, Nat.reduceEqDiff, Nat.reduceAdd, false_and, and_false, true_and, and_true, reduceIte, nZ0, nZ1, hdm, hmd, hdj, hjd, sσ88_6.1, sσ88_6.2, pσ88, cσ65_19.1, cσ65_19.2, cσ72_19.1, cσ72_19.2, cσ86_8.1, cσ86_8.2, cσ86_9.1, cσ86_9.2, cσ86_13.1, cσ86_13.2, cσ86_19.1, cσ86_19.2, cσ88_9.1, cσ88_9.2, cσ88_13.1, cσ88_13.2, cσ88_19.1, cσ88_19.2]) <;> omega⟩, PsI19 ps9, by rw [cn19]; (try simp only [rII, rIJ, rIP, rJJ, rJI, rJP, rPP, rPI, rPJ, g1, g2, g3, g4, g5, g6, g7, g8, Nat.reduceEqDiff, Nat.reduceAdd, false_and, and_false, true_and, and_true, reduceIte, nZ0, nZ1, hdm, hmd, hdj, hjd, sσ88_6.1, sσ88_6.2, pσ88, cσ65_19.1, cσ65_19.2, cσ72_19.1, cσ72_19.2, cσ86_8.1, cσ86_8.2, cσ86_9.1, cσ86_9.2, cσ86_13.1, cσ86_13.2, cσ86_19.1, cσ86_19.2, cσ88_9.1, cσ88_9.2, cσ88_13.1, cσ88_13.2, cσ88_19.1, cσ88_19.2]) <;> omega, by (try simp only [rII, rIJ, rIP, rJJ, rJI, rJP, rPP, rPI, rPJ, g1, g2, g3, g4, g5, g6, g7, g8, Nat.reduceEqDiff, Nat.reduceAdd, false_and, and_false, true_and, and_true, reduceIte, nZ0, nZ1, hdm, hmd, hdj, hjd, sσ88_6.1, sσ88_6.2, pσ88, cσ65_19.1, cσ65_19.2, cσ72_19.1, cσ72_19.2, cσ86_8.1, cσ86_8.2, cσ86_9.1, cσ86_9.2, cσ86_13.1, cσ86_13.2, cσ86_19.1, cσ86_19.2, cσ88_9.1, cσ88_9.2, cσ88_13.1, cσ88_13.2, cσ88_19.1, cσ88_19.2]) <;> omega, by (try simp only [rII, rIJ, rIP, rJJ, rJI, rJP, rPP, rPI, rPJ, g1, g2, g3, g4, g5, g6, g7, g8, Nat.reduceEqDiff, Nat.reduceAdd, false_and, and_false, true_and, and_true, reduceIte, nZ0, nZ1, hdm, hmd, hdj, hjd, sσ88_6.1, sσ88_6.2, pσ88, cσ65_19.1, cσ65_19.2, cσ72_19.1, cσ72_19.2, cσ86_8.1, cσ86_8.2, cσ86_9.1, cσ86_9.2, cσ86_13.1, cσ86_13.2, cσ86_19.1, cσ86_19.2, cσ88_9.1, cσ88_9.2, cσ88_13.1, cσ88_13.2, cσ88_19.1, cσ88_19.2]) <;> omega, fun k hk => by (try simp only [rII, rIJ, rIP, rJJ, rJI, rJP, rPP, rPI, rPJ, g1, g2, g3, g4, g5, g6, g7, g8, Nat.reduceEqDiff, Nat.reduceAdd, false_and, and_false, true_and, and_true, reduceIte, nZ0, nZ1, hdm, hmd, hdj, hjd, sσ88_6.1, sσ88_6.2, pσ88, cσ65_19.1, cσ65_19.2, cσ72_19.1, cσ72_19.2, cσ86_8.1, cσ86_8.2, cσ86_9.1, cσ86_9.2, cσ86_13.1, cσ86_13.2, cσ86_19.1, cσ86_19.2, cσ88_9.1, cσ88_9.2, cσ88_13.1, cσ88_13.2, cσ88_19.1, cσ88_19.2]) <;> exact okk k hk⟩)
        · rename_i hc113
          skip
          unfold w_X16_single_116
          try simp only [forall_eq, rII, rIJ, rIP, rJJ, rJI, rJP, rPP, rPI, rPJ, g1, g2, g3, g4, g5, g6, g7, g8, Nat.reduceEqDiff, Nat.reduceAdd, false_and, and_false, true_and, and_true, reduceIte, nZ0, nZ1, hdm, hmd, hdj, hjd, sσ65_6.1, sσ65_6.2, pσ65, cσ65_19.1, cσ65_19.2]
          refine ⟨da, by exact hd, hda, ?_⟩
          refine s2_X15_step (o := o) g rσ65 hda (by first | omega | (have tk9 := PsI.tok ps9 (by omega) (by omega); omega)) (by omega) (fun σ90 r91 rσ90 fc p15 => ?_)
          have fσ90 : FdO ra jx rm da o [15, 16] [4, 5, 7, 8, 9, 10, 11, 12, 13, 19] [15, 16] σ σ90 := FdO.tr fσ65 (FdO.mor (fc) (by decide) (by decide) (by decide))
          have cσ90_8 := fc.2.1 8 (by decide)
          have cσ90_9 := fc.2.1 9 (by decide)
          have cσ90_13 := fc.2.1 13 (by decide)
          have cσ90_19 := fc.2.1 19 (by decide)
          have st0 := p15.1; have st1 := p15.2.1; have st2 := p15.2.2.1; have st3 := p15.2.2.2.1
          have okk : ∀ k, k ≠ 17 → gI σ90 da k = gI σ da k := fun k hk => by rw [p15.2.2.2.2 k hk]; exact okk k hk
          have pf9 := PsI.frj ps9 (FdO.fj fc) (by decide)
          have ps9 := pf9.1; have cq9 := pf9.2
          have n19 := (fc.2.1 19 (by decide)).1
          have le6 := PsI.le ps9
          have s6n := (fσ90.2.1 6 (by decide)).1
          obtain ⟨dq9, ag8, pg9, de8⟩ := PgI.putE (d' := dp (gI σ da 17) + 1) pg9 (by omega) st1 st2 st3 de9 (by omega) (by omega) (Or.inl ⟨by omega, by omega, fun q => absurd q (by decide)⟩)
          have ag9 : ∀ pc, pc ≤ gI σ da 17 → dq9 pc = dp pc := fun pc hp => (ag8 pc (by omega)).trans (ag9 pc hp)
          have de9 := de8
          have sσ90_6 := fσ90.2.1 6 (by decide)
          have pσ90 := fσ90.2.2.2.1 (by decide)
          try simp only [rII, rIJ, rIP, rJJ, rJI, rJP, rPP, rPI, rPJ, g1, g2, g3, g4, g5, g6, g7, g8, Nat.reduceEqDiff, Nat.reduceAdd, false_and, and_false, true_and, and_true, reduceIte, nZ0, nZ1, hdm, hmd, hdj, hjd, sσ90_6.1, sσ90_6.2, pσ90, cσ65_19.1, cσ65_19.2, cσ90_8.1, cσ90_8.2, cσ90_9.1, cσ90_9.2, cσ90_13.1, cσ90_13.2, cσ90_19.1, cσ90_19.2] at p15
          try simp only [forall_eq, rII, rIJ, rIP, rJJ, rJI, rJP, rPP, rPI, rPJ, g1, g2, g3, g4, g5, g6, g7, g8, Nat.reduceEqDiff, Nat.reduceAdd, false_and, and_false, true_and, and_true, reduceIte, nZ0, nZ1, hdm, hmd, hdj, hjd, sσ90_6.1, sσ90_6.2, pσ90, cσ65_19.1, cσ65_19.2, cσ90_8.1, cσ90_8.2, cσ90_9.1, cσ90_9.2, cσ90_13.1, cσ90_13.2, cσ90_19.1, cσ90_19.2]
          refine s2_X16_take g rσ90 (by first | exact ps9 | exact PsI19 ps9) (by omega) (by omega) (fun σ92 _ rσ92 fc p16 => ?_)
          have fσ92 : FdO ra jx rm da o [15, 16] [4, 5, 7, 8, 9, 10, 11, 12, 13, 19] [15, 16] σ σ92 := FdO.tr fσ90 (FdO.mor (Fr.d fc hda (by decide)) (by decide) (by decide) (by decide))
          have cσ92_9 := fc.2.1 9 (by decide)
          have cσ92_13 := fc.2.1 13 (by decide)
          have cσ92_19 := fc.2.1 19 (by decide)
          have ps9 := p16.1; have cq9 := p16.2
          have pg9 := PgI.fr pg9 hda fc (by decide)
          have n17 := congrFun (Fr.ob fc hda (by decide)) 17
          (try simp only [rII, rIJ, rIP, rJJ, rJI, rJP, rPP, rPI, rPJ, g1, g2, g3, g4, g5, g6, g7, g8, Nat.reduceEqDiff, Nat.reduceAdd, false_and, and_false, true_and, and_true, reduceIte, nZ0, nZ1, hdm, hmd, hdj, hjd, sσ90_6.1, sσ90_6.2, pσ90, cσ65_19.1, cσ65_19.2, cσ90_8.1, cσ90_8.2, cσ90_9.1, cσ90_9.2, cσ90_13.1, cσ90_13.2, cσ90_19.1, cσ90_19.2] at n17)
          have okk : ∀ k, k ≠ 17 → gI σ92 da k = gI σ da k := fun k hk => (congrFun (Fr.ob fc hda (by decide)) k).trans (by (try simp only [rII, rIJ, rIP, rJJ, rJI, rJP, rPP, rPI, rPJ, g1, g2, g3, g4, g5, g6, g7, g8, Nat.reduceEqDiff, Nat.reduceAdd, false_and, and_false, true_and, and_true, reduceIte, nZ0, nZ1, hdm, hmd, hdj, hjd, sσ90_6.1, sσ90_6.2, pσ90, cσ65_19.1, cσ65_19.2, cσ90_8.1, cσ90_8.2, cσ90_9.1, cσ90_9.2, cσ90_13.1, cσ90_13.2, cσ90_19.1, cσ90_19.2]) <;> exact okk k hk)
          have n19 := (fc.2.1 19 (by decide)).1
          have le6 := PsI.le ps9
          have s6n := (fσ92.2.1 6 (by decide)).1
          have ded : dq9 (gI σ92 da 17) = dp (gI σ da 17) + 1 := by rw [n17]; exact de9
          have de9 := ded
          have sσ92_6 := fσ92.2.1 6 (by decide)
          have pσ92 := fσ92.2.2.2.1 (by decide)
          try simp only [rII, rIJ, rIP, rJJ, rJI, rJP, rPP, rPI, rPJ, g1, g2, g3, g4, g5, g6, g7, g8, Nat.reduceEqDiff, Nat.reduceAdd, false_and, and_false, true_and, and_true, reduceIte, nZ0, nZ1, hdm, hmd, hdj, hjd, sσ92_6.1, sσ92_6.2, pσ92, cσ65_19.1, cσ65_19.2, cσ90_8.1, cσ90_8.2, cσ90_9.1, cσ90_9.2, cσ90_13.1, cσ90_13.2, cσ90_19.1, cσ90_19.2, cσ92_9.1, cσ92_9.2, cσ92_13.1, cσ92_13.2, cσ92_19.1, cσ92_19.2] at p16
          try simp only [forall_eq, rII, rIJ, rIP, rJJ, rJI, rJP, rPP, rPI, rPJ, g1, g2, g3, g4, g5, g6, g7, g8, Nat.reduceEqDiff, Nat.reduceAdd, false_and, and_false, true_and, and_true, reduceIte, nZ0, nZ1, hdm, hmd, hdj, hjd, sσ92_6.1, sσ92_6.2, pσ92, cσ65_19.1, cσ65_19.2, cσ90_8.1, cσ90_8.2, cσ90_9.1, cσ90_9.2, cσ90_13.1, cσ90_13.2, cσ90_19.1, cσ90_19.2, cσ92_9.1, cσ92_9.2, cσ92_13.1, cσ92_13.2, cσ92_19.1, cσ92_19.2]
          unfold w_X16_single_201
          try simp only [forall_eq, rII, rIJ, rIP, rJJ, rJI, rJP, rPP, rPI, rPJ, g1, g2, g3, g4, g5, g6, g7, g8, Nat.reduceEqDiff, Nat.reduceAdd, false_and, and_false, true_and, and_true, reduceIte, nZ0, nZ1, hdm, hmd, hdj, hjd, sσ92_6.1, sσ92_6.2, pσ92, cσ65_19.1, cσ65_19.2, cσ90_8.1, cσ90_8.2, cσ90_9.1, cσ90_9.2, cσ90_13.1, cσ90_13.2, cσ90_19.1, cσ90_19.2, cσ92_9.1, cσ92_9.2, cσ92_13.1, cσ92_13.2, cσ92_19.1, cσ92_19.2]
          refine hQ _ _ ?_ ?_ ?_
          · exact rσ92
          · exact fσ92
          · first | exact ⟨⟨dq9, ag9, pg9, by omega⟩, ps9, by omega, by omega, by omega, okk⟩ | (exact ⟨⟨dq9, ag9, PgI.fr (K := []) (S := [19]) pg9 hda (by repeat (first | exact Fr.rf | assumption | refine Fr.aJ g ?_ (by decide) | refine Fr.aI g ?_ (by decide) | refine Fr.sI g ?_ (by decide) | refine Fr.sJ g ?_ (by decide))) (by decide), by (try simp only [rII, rIJ, rIP, rJJ, rJI, rJP, rPP, rPI, rPJ, g1, g2, g3, g4, g5, g6, g7, g8, Nat.reduceEqDiff, Nat.reduceAdd, false_and, and_false, true_and, and_true, reduceIte, nZ0, nZ1, hdm, hmd, hdj, hjd, sσ92_6.1, sσ92_6.2, pσ92, cσ65_19.1, cσ65_19.2, cσ90_8.1, cσ90_8.2, cσ90_9.1, cσ90_9.2, cσ90_13.1, cσ90_13.2, cσ90_19.1, cσ90_19.2, cσ92_9.1, cσ92_9.2, cσ92_13.1, cσ92_13.2, cσ92_19.1, cσ92_19.2]) <;> omega⟩, PsI19 ps9, by rw [cn19]; (try simp only [rII, rIJ, rIP, rJJ, rJI, rJP, rPP, rPI, rPJ, g1, g2, g3, g4, g5, g6, g7, g8, Nat.reduceEqDiff, Nat.reduceAdd, false_and, and_false, true_and, and_true, reduceIte, nZ0, nZ1, hdm, hmd, hdj, hjd, sσ92_6.1, sσ92_6.2, pσ92, cσ65_19.1, cσ65_19.2, cσ90_8.1, cσ90_8.2, cσ90_9.1, cσ90_9.2, cσ90_13.1, cσ90_13.2, cσ90_19.1, cσ90_19.2, cσ92_9.1, cσ92_9.2, cσ92_13.1, cσ92_13.2, cσ92_19.1, cσ92_19.2]) <;> omega, by (try simp only [rII, rIJ, rIP, rJJ, rJI, rJP, rPP, rPI, rPJ, g1, g2, g3, g4, g5, g6, g7, g8, Nat.reduceEqDiff, Nat.reduceAdd, false_and, and_false, true_and, and_true, reduceIte, nZ0, nZ1, hdm, hmd, hdj, hjd, sσ92_6.1, sσ92_6.2, pσ92, cσ65_19.1, cσ65_19.2, cσ90_8.1, cσ90_8.2, cσ90_9.1, cσ90_9.2, cσ90_13.1, cσ90_13.2, cσ90_19.1, cσ90_19.2, cσ92_9.1, cσ92_9.2, cσ92_13.1, cσ92_13.2, cσ92_19.1, cσ92_19.2]) <;> omega, by (try simp only [rII, rIJ, rIP, rJJ, rJI, rJP, rPP, rPI, rPJ, g1, g2, g3, g4, g5, g6, g7, g8, Nat.reduceEqDiff, Nat.reduceAdd, false_and, and_false, true_and, and_true, reduceIte, nZ0, nZ1, hdm, hmd, hdj, hjd, sσ92_6.1, sσ92_6.2, pσ92, cσ65_19.1, cσ65_19.2, cσ90_8.1, cσ90_8.2, cσ90_9.1, cσ90_9.2, cσ90_13.1, cσ90_13.2, cσ90_19.1, cσ90_19.2, cσ92_9.1, cσ92_9.2, cσ92_13.1, cσ92_13.2, cσ92_19.1, cσ92_19.2]) <;> omega, fun k hk => by (try simp only [rII, rIJ, rIP, rJJ, rJI, rJP, rPP, rPI, rPJ, g1, g2, g3, g4, g5, g6, g7, g8, Nat.reduceEqDiff, Nat.reduceAdd, false_and, and_false, true_and, and_true, reduceIte, nZ0, nZ1, hdm, hmd, hdj, hjd, sσ92_6.1, sσ92_6.2, pσ92, cσ65_19.1, cσ65_19.2, cσ90_8.1, cσ90_8.2, cσ90_9.1, cσ90_9.2, cσ90_13.1, cσ90_13.2, cσ90_19.1, cσ90_19.2, cσ92_9.1, cσ92_9.2, cσ92_13.1, cσ92_13.2, cσ92_19.1, cσ92_19.2]) <;> exact okk k hk⟩)
      · rename_i hc77
        skip
        unfold w_X16_single_80
        try simp only [forall_eq, rII, rIJ, rIP, rJJ, rJI, rJP, rPP, rPI, rPJ, g1, g2, g3, g4, g5, g6, g7, g8, Nat.reduceEqDiff, Nat.reduceAdd, false_and, and_false, true_and, and_true, reduceIte, nZ0, nZ1, hdm, hmd, hdj, hjd, sσ65_6.1, sσ65_6.2, pσ65, cσ65_19.1, cσ65_19.2]
        refine s2_X16_opens g rσ65 (by first | exact ps9 | exact PsI19 ps9) (by omega) (by omega) (fun σ93 _ rσ93 fc p17 => ?_) (fun σx E rx fx px => hX _ _ rx (FdO.tr fσ65 (FdO.mor (Fr.d fx hda (by decide)) (by decide) (by decide) (by decide))) px)
        have fσ93 : FdO ra jx rm da o [15, 16] [4, 5, 7, 8, 9, 10, 11, 12, 13, 19] [15, 16] σ σ93 := FdO.tr fσ65 (FdO.mor (Fr.d fc hda (by decide)) (by decide) (by decide) (by decide))
        have cσ93_9 := fc.2.1 9 (by decide)
        have cσ93_13 := fc.2.1 13 (by decide)
        have ps9 := p17.1; have cq9 := p17.2
        have pg9 := PgI.fr pg9 hda fc (by decide)
        have n17 := congrFun (Fr.ob fc hda (by decide)) 17
        (try simp only [rII, rIJ, rIP, rJJ, rJI, rJP, rPP, rPI, rPJ, g1, g2, g3, g4, g5, g6, g7, g8, Nat.reduceEqDiff, Nat.reduceAdd, false_and, and_false, true_and, and_true, reduceIte, nZ0, nZ1, hdm, hmd, hdj, hjd, sσ65_6.1, sσ65_6.2, pσ65, cσ65_19.1, cσ65_19.2] at n17)
        have okk : ∀ k, k ≠ 17 → gI σ93 da k = gI σ da k := fun k hk => (congrFun (Fr.ob fc hda (by decide)) k).trans (by (try simp only [rII, rIJ, rIP, rJJ, rJI, rJP, rPP, rPI, rPJ, g1, g2, g3, g4, g5, g6, g7, g8, Nat.reduceEqDiff, Nat.reduceAdd, false_and, and_false, true_and, and_true, reduceIte, nZ0, nZ1, hdm, hmd, hdj, hjd, sσ65_6.1, sσ65_6.2, pσ65, cσ65_19.1, cσ65_19.2]) <;> exact okk k hk)
        have le6 := PsI.le ps9
        have s6n := (fσ93.2.1 6 (by decide)).1
        have ded : dp (gI σ93 da 17) = dp (gI σ da 17) := by rw [n17]; exact de9
        have de9 := ded
        have sσ93_6 := fσ93.2.1 6 (by decide)
        have pσ93 := fσ93.2.2.2.1 (by decide)
        try simp only [rII, rIJ, rIP, rJJ, rJI, rJP, rPP, rPI, rPJ, g1, g2, g3, g4, g5, g6, g7, g8, Nat.reduceEqDiff, Nat.reduceAdd, false_and, and_false, true_and, and_true, reduceIte, nZ0, nZ1, hdm, hmd, hdj, hjd, sσ93_6.1, sσ93_6.2, pσ93, cσ65_19.1, cσ65_19.2, cσ93_9.1, cσ93_9.2, cσ93_13.1, cσ93_13.2] at p17
        try simp only [forall_eq, rII, rIJ, rIP, rJJ, rJI, rJP, rPP, rPI, rPJ, g1, g2, g3, g4, g5, g6, g7, g8, Nat.reduceEqDiff, Nat.reduceAdd, false_and, and_false, true_and, and_true, reduceIte, nZ0, nZ1, hdm, hmd, hdj, hjd, sσ93_6.1, sσ93_6.2, pσ93, cσ65_19.1, cσ65_19.2, cσ93_9.1, cσ93_9.2, cσ93_13.1, cσ93_13.2]
        refine ih0 (o := o) (dp := dp) (ex := ex) g rσ93 (by first | exact ps9 | exact PsI19 ps9) (by (try simp only [rII, rIJ, rIP, rJJ, rJI, rJP, rPP, rPI, rPJ, g1, g2, g3, g4, g5, g6, g7, g8, Nat.reduceEqDiff, Nat.reduceAdd, false_and, and_false, true_and, and_true, reduceIte, nZ0, nZ1, hdm, hmd, hdj, hjd, sσ93_6.1, sσ93_6.2, pσ93, cσ65_19.1, cσ65_19.2, cσ93_9.1, cσ93_9.2, cσ93_13.1, cσ93_13.2]) <;> first | exact hd | (rw [fσ93.2.2.2.1 (by decide)]; exact hd)) hda h1 (by (try simp only [rII, rIJ, rIP, rJJ, rJI, rJP, rPP, rPI, rPJ, g1, g2, g3, g4, g5, g6, g7, g8, Nat.reduceEqDiff, Nat.reduceAdd, false_and, and_false, true_and, and_true, reduceIte, nZ0, nZ1, hdm, hmd, hdj, hjd, sσ93_6.1, sσ93_6.2, pσ93, cσ65_19.1, cσ65_19.2, cσ93_9.1, cσ93_9.2, cσ93_13.1, cσ93_13.2]) <;> omega) (by exact pg9) (by (try simp only [rII, rIJ, rIP, rJJ, rJI, rJP, rPP, rPI, rPJ, g1, g2, g3, g4, g5, g6, g7, g8, Nat.reduceEqDiff, Nat.reduceAdd, false_and, and_false, true_and, and_true, reduceIte, nZ0, nZ1, hdm, hmd, hdj, hjd, sσ93_6.1, sσ93_6.2, pσ93, cσ65_19.1, cσ65_19.2, cσ93_9.1, cσ93_9.2, cσ93_13.1, cσ93_13.2]) <;> omega) (by (try simp only [rII, rIJ, rIP, rJJ, rJI, rJP, rPP, rPI, rPJ, g1, g2, g3, g4, g5, g6, g7, g8, Nat.reduceEqDiff, Nat.reduceAdd, false_and, and_false, true_and, and_true, reduceIte, nZ0, nZ1, hdm, hmd, hdj, hjd, sσ93_6.1, sσ93_6.2, pσ93, cσ65_19.1, cσ65_19.2, cσ93_9.1, cσ93_9.2, cσ93_13.1, cσ93_13.2]) <;> exact fun pc hp => hex pc (by omega)) (by (try simp only [rII, rIJ, rIP, rJJ, rJI, rJP, rPP, rPI, rPJ, g1, g2, g3, g4, g5, g6, g7, g8, Nat.reduceEqDiff, Nat.reduceAdd, false_and, and_false, true_and, and_true, reduceIte, nZ0, nZ1, hdm, hmd, hdj, hjd, sσ93_6.1, sσ93_6.2, pσ93, cσ65_19.1, cσ65_19.2, cσ93_9.1, cσ93_9.2, cσ93_13.1, cσ93_13.2]) <;> omega) (fun σ94 _ rσ94 fc p18 => ?_) (fun σx E rx fx px => hX _ _ rx (FdO.tr fσ93 (FdO.mor (fx) (by decide) (by decide) (by decide))) px)
        have fσ94 : FdO ra jx rm da o [15, 16] [4, 5, 7, 8, 9, 10, 11, 12, 13, 19] [15, 16] σ σ94 := FdO.tr fσ93 (FdO.mor (fc) (by decide) (by decide) (by decide))
        obtain ⟨⟨dq9, ag9, pg9, de9⟩, ps9, cq9, n19, nl9, ok9⟩ := p18
        have okk : ∀ k, k ≠ 17 → gI σ94 da k = gI σ da k := fun k hk => (ok9 k hk).trans (by (try simp only [rII, rIJ, rIP, rJJ, rJI, rJP, rPP, rPI, rPJ, g1, g2, g3, g4, g5, g6, g7, g8, Nat.reduceEqDiff, Nat.reduceAdd, false_and, and_false, true_and, and_true, reduceIte, nZ0, nZ1, hdm, hmd, hdj, hjd, sσ93_6.1, sσ93_6.2, pσ93, cσ65_19.1, cσ65_19.2, cσ93_9.1, cσ93_9.2, cσ93_13.1, cσ93_13.2]) <;> exact okk k hk)
        (try simp only [rII, rIJ, rIP, rJJ, rJI, rJP, rPP, rPI, rPJ, g1, g2, g3, g4, g5, g6, g7, g8, Nat.reduceEqDiff, Nat.reduceAdd, false_and, and_false, true_and, and_true, reduceIte, nZ0, nZ1, hdm, hmd, hdj, hjd, sσ93_6.1, sσ93_6.2, pσ93, cσ65_19.1, cσ65_19.2, cσ93_9.1, cσ93_9.2, cσ93_13.1, cσ93_13.2] at cq9 n19 nl9 ag9 de9)
        have eo9 : gI σ93 da 17 = gI σ da 17 := by omega
        (try rw [eo9] at de9)
        have ag9 : ∀ pc, pc ≤ gI σ da 17 → dq9 pc = dp pc := fun pc hp => ag9 pc (by omega)
        have le6 := PsI.le ps9
        have s6n := (fσ94.2.1 6 (by decide)).1
        have sσ94_6 := fσ94.2.1 6 (by decide)
        have pσ94 := fσ94.2.2.2.1 (by decide)
        try simp only [rII, rIJ, rIP, rJJ, rJI, rJP, rPP, rPI, rPJ, g1, g2, g3, g4, g5, g6, g7, g8, Nat.reduceEqDiff, Nat.reduceAdd, false_and, and_false, true_and, and_true, reduceIte, nZ0, nZ1, hdm, hmd, hdj, hjd, sσ94_6.1, sσ94_6.2, pσ94, cσ65_19.1, cσ65_19.2, cσ93_9.1, cσ93_9.2, cσ93_13.1, cσ93_13.2] at p18
        try simp only [forall_eq, rII, rIJ, rIP, rJJ, rJI, rJP, rPP, rPI, rPJ, g1, g2, g3, g4, g5, g6, g7, g8, Nat.reduceEqDiff, Nat.reduceAdd, false_and, and_false, true_and, and_true, reduceIte, nZ0, nZ1, hdm, hmd, hdj, hjd, sσ94_6.1, sσ94_6.2, pσ94, cσ65_19.1, cσ65_19.2, cσ93_9.1, cσ93_9.2, cσ93_13.1, cσ93_13.2]
        have q19 := rσ94.2.1 19; simp only [rgS, hdm, hmd, hdj, hjd] at q19
        refine ⟨by (first | omega | with_reducible assumption | (unfold rng; omega) | (unfold rng; (repeat' split) <;> omega) | decide), ?_⟩
        refine s2_X16_sign g (by refine Rg.sI g ?_ (by simp only [rgS]; first | with_reducible exact nZ_rng _ | with_reducible exact nB_rng _ | with_reducible exact wr_rng _ | with_reducible exact i32any _ | (first | omega | with_reducible assumption | (unfold rng; omega) | (unfold rng; (repeat' split) <;> omega) | decide)); exact rσ94) (by first | exact ps9 | exact PsI19 ps9) (by (try simp only [rII, rIJ, rIP, rJJ, rJI, rJP, rPP, rPI, rPJ, g1, g2, g3, g4, g5, g6, g7, g8, Nat.reduceEqDiff, Nat.reduceAdd, false_and, and_false, true_and, and_true, reduceIte, nZ0, nZ1, hdm, hmd, hdj, hjd, sσ94_6.1, sσ94_6.2, pσ94, cσ65_19.1, cσ65_19.2, cσ93_9.1, cσ93_9.2, cσ93_13.1, cσ93_13.2]) <;> (first | omega | with_reducible assumption | (unfold rng; omega) | (unfold rng; (repeat' split) <;> omega) | decide)) (by (try simp only [rII, rIJ, rIP, rJJ, rJI, rJP, rPP, rPI, rPJ, g1, g2, g3, g4, g5, g6, g7, g8, Nat.reduceEqDiff, Nat.reduceAdd, false_and, and_false, true_and, and_true, reduceIte, nZ0, nZ1, hdm, hmd, hdj, hjd, sσ94_6.1, sσ94_6.2, pσ94, cσ65_19.1, cσ65_19.2, cσ93_9.1, cσ93_9.2, cσ93_13.1, cσ93_13.2]) <;> (first | omega | with_reducible assumption | (unfold rng; omega) | (unfold rng; (repeat' split) <;> omega) | decide)) (fun σ96 _ rσ96 fc p20 => ?_) (fun σx E rx fx px => hX _ _ rx (FdO.tr (by refine FdO.sI g ?_ hda (by decide); exact fσ94) (FdO.mor (Fr.d fx hda (by decide)) (by decide) (by decide) (by decide))) px)
        have fσ96 : FdO ra jx rm da o [15, 16] [4, 5, 7, 8, 9, 10, 11, 12, 13, 19] [15, 16] σ σ96 := FdO.tr (by refine FdO.sI g ?_ hda (by decide); exact fσ94) (FdO.mor (Fr.d fc hda (by decide)) (by decide) (by decide) (by decide))
        have cσ96_19 := fc.2.1 19 (by decide)
        have psA := ps9
        have ps9 := p20.1; have cq9 := p20.2
        have pg9 := PgI.fr (PgI.fr (K := []) (S := [19]) pg9 hda (by repeat (first | exact Fr.rf | assumption | refine Fr.aJ g ?_ (by decide) | refine Fr.aI g ?_ (by decide) | refine Fr.sI g ?_ (by decide) | refine Fr.sJ g ?_ (by decide))) (by decide)) hda fc (by decide)
        have n17 := congrFun (Fr.ob fc hda (by decide)) 17
        (try simp only [rII, rIJ, rIP, rJJ, rJI, rJP, rPP, rPI, rPJ, g1, g2, g3, g4, g5, g6, g7, g8, Nat.reduceEqDiff, Nat.reduceAdd, false_and, and_false, true_and, and_true, reduceIte, nZ0, nZ1, hdm, hmd, hdj, hjd, sσ94_6.1, sσ94_6.2, pσ94, cσ65_19.1, cσ65_19.2, cσ93_9.1, cσ93_9.2, cσ93_13.1, cσ93_13.2] at n17)
        have okk : ∀ k, k ≠ 17 → gI σ96 da k = gI σ da k := fun k hk => (congrFun (Fr.ob fc hda (by decide)) k).trans (by (try simp only [rII, rIJ, rIP, rJJ, rJI, rJP, rPP, rPI, rPJ, g1, g2, g3, g4, g5, g6, g7, g8, Nat.reduceEqDiff, Nat.reduceAdd, false_and, and_false, true_and, and_true, reduceIte, nZ0, nZ1, hdm, hmd, hdj, hjd, sσ94_6.1, sσ94_6.2, pσ94, cσ65_19.1, cσ65_19.2, cσ93_9.1, cσ93_9.2, cσ93_13.1, cσ93_13.2]) <;> exact okk k hk)
        have n19 := (fc.2.1 19 (by decide)).1
        (try simp only [rII, rIJ, rIP, rJJ, rJI, rJP, rPP, rPI, rPJ, g1, g2, g3, g4, g5, g6, g7, g8, Nat.reduceEqDiff, Nat.reduceAdd, false_and, and_false, true_and, and_true, reduceIte, nZ0, nZ1, hdm, hmd, hdj, hjd, sσ94_6.1, sσ94_6.2, pσ94, cσ65_19.1, cσ65_19.2, cσ93_9.1, cσ93_9.2, cσ93_13.1, cσ93_13.2] at n19)
        have le6 := PsI.le ps9
        have s6n := (fσ96.2.1 6 (by decide)).1
        have ded : dq9 (gI σ96 da 17) = dp (gI σ da 17) + 1 := by rw [n17]; exact de9
        have de9 := ded
        rw [cn19] at cq9
        have sσ96_6 := fσ96.2.1 6 (by decide)
        have pσ96 := fσ96.2.2.2.1 (by decide)
        try simp only [rII, rIJ, rIP, rJJ, rJI, rJP, rPP, rPI, rPJ, g1, g2, g3, g4, g5, g6, g7, g8, Nat.reduceEqDiff, Nat.reduceAdd, false_and, and_false, true_and, and_true, reduceIte, nZ0, nZ1, hdm, hmd, hdj, hjd, sσ96_6.1, sσ96_6.2, pσ96, cσ65_19.1, cσ65_19.2, cσ93_9.1, cσ93_9.2, cσ93_13.1, cσ93_13.2, cσ96_19.1, cσ96_19.2] at p20
        try simp only [forall_eq, rII, rIJ, rIP, rJJ, rJI, rJP, rPP, rPI, rPJ, g1, g2, g3, g4, g5, g6, g7, g8, Nat.reduceEqDiff, Nat.reduceAdd, false_and, and_false, true_and, and_true, reduceIte, nZ0, nZ1, hdm, hmd, hdj, hjd, sσ96_6.1, sσ96_6.2, pσ96, cσ65_19.1, cσ65_19.2, cσ93_9.1, cσ93_9.2, cσ93_13.1, cσ93_13.2, cσ96_19.1, cσ96_19.2]
        unfold w_X16_single_201
        try simp only [forall_eq, rII, rIJ, rIP, rJJ, rJI, rJP, rPP, rPI, rPJ, g1, g2, g3, g4, g5, g6, g7, g8, Nat.reduceEqDiff, Nat.reduceAdd, false_and, and_false, true_and, and_true, reduceIte, nZ0, nZ1, hdm, hmd, hdj, hjd, sσ96_6.1, sσ96_6.2, pσ96, cσ65_19.1, cσ65_19.2, cσ93_9.1, cσ93_9.2, cσ93_13.1, cσ93_13.2, cσ96_19.1, cσ96_19.2]
        refine hQ _ _ ?_ ?_ ?_
        · exact rσ96
        · exact fσ96
        · first | exact ⟨⟨dq9, ag9, pg9, by omega⟩, ps9, by omega, by omega, by omega, okk⟩ | (exact ⟨⟨dq9, ag9, PgI.fr (K := []) (S := [19]) pg9 hda (by repeat (first | exact Fr.rf | assumption | refine Fr.aJ g ?_ (by decide) | refine Fr.aI g ?_ (by decide) | refine Fr.sI g ?_ (by decide) | refine Fr.sJ g ?_ (by decide))) (by decide), by (try simp only [rII, rIJ, rIP, rJJ, rJI, rJP, rPP, rPI, rPJ, g1, g2, g3, g4, g5, g6, g7, g8, Nat.reduceEqDiff, Nat.reduceAdd, false_and, and_false, true_and, and_true, reduceIte, nZ0, nZ1, hdm, hmd, hdj, hjd, sσ96_6.1, sσ96_6.2, pσ96, cσ65_19.1, cσ65_19.2, cσ93_9.1, cσ93_9.2, cσ93_13.1, cσ93_13.2, cσ96_19.1, cσ96_19.2]) <;> omega⟩, PsI19 ps9, by rw [cn19]; (try simp only [rII, rIJ, rIP, rJJ, rJI, rJP, rPP, rPI, rPJ, g1, g2, g3, g4, g5, g6, g7, g8, Nat.reduceEqDiff, Nat.reduceAdd, false_and, and_false, true_and, and_true, reduceIte, nZ0, nZ1, hdm, hmd, hdj, hjd, sσ96_6.1, sσ96_6.2, pσ96, cσ65_19.1, cσ65_19.2, cσ93_9.1, cσ93_9.2, cσ93_13.1, cσ93_13.2, cσ96_19.1, cσ96_19.2]) <;> omega, by (try simp only [rII, rIJ, rIP, rJJ, rJI, rJP, rPP, rPI, rPJ, g1, g2, g3, g4, g5, g6, g7, g8, Nat.reduceEqDiff, Nat.reduceAdd, false_and, and_false, true_and, and_true, reduceIte, nZ0, nZ1, hdm, hmd, hdj, hjd, sσ96_6.1, sσ96_6.2, pσ96, cσ65_19.1, cσ65_19.2, cσ93_9.1, cσ93_9.2, cσ93_13.1, cσ93_13.2, cσ96_19.1, cσ96_19.2]) <;> omega, by (try simp only [rII, rIJ, rIP, rJJ, rJI, rJP, rPP, rPI, rPJ, g1, g2, g3, g4, g5, g6, g7, g8, Nat.reduceEqDiff, Nat.reduceAdd, false_and, and_false, true_and, and_true, reduceIte, nZ0, nZ1, hdm, hmd, hdj, hjd, sσ96_6.1, sσ96_6.2, pσ96, cσ65_19.1, cσ65_19.2, cσ93_9.1, cσ93_9.2, cσ93_13.1, cσ93_13.2, cσ96_19.1, cσ96_19.2]) <;> omega, fun k hk => by (try simp only [rII, rIJ, rIP, rJJ, rJI, rJP, rPP, rPI, rPJ, g1, g2, g3, g4, g5, g6, g7, g8, Nat.reduceEqDiff, Nat.reduceAdd, false_and, and_false, true_and, and_true, reduceIte, nZ0, nZ1, hdm, hmd, hdj, hjd, sσ96_6.1, sσ96_6.2, pσ96, cσ65_19.1, cσ65_19.2, cσ93_9.1, cσ93_9.2, cσ93_13.1, cσ93_13.2, cσ96_19.1, cσ96_19.2]) <;> exact okk k hk⟩)
    · rename_i hc19
      skip
      unfold w_X16_single_22
      try simp only [forall_eq, rII, rIJ, rIP, rJJ, rJI, rJP, rPP, rPI, rPJ, g1, g2, g3, g4, g5, g6, g7, g8, Nat.reduceEqDiff, Nat.reduceAdd, false_and, and_false, true_and, and_true, reduceIte, nZ0, nZ1, hdm, hmd, hdj, hjd, sσ65_6.1, sσ65_6.2, pσ65, cσ65_19.1, cσ65_19.2]
      rw [if_pos (show ((gI σ65 rm 9) ≠ 45) by omega)]
      unfold w_X16_single_36
      try simp only [forall_eq, rII, rIJ, rIP, rJJ, rJI, rJP, rPP, rPI, rPJ, g1, g2, g3, g4, g5, g6, g7, g8, Nat.reduceEqDiff, Nat.reduceAdd, false_and, and_false, true_and, and_true, reduceIte, nZ0, nZ1, hdm, hmd, hdj, hjd, sσ65_6.1, sσ65_6.2, pσ65, cσ65_19.1, cσ65_19.2]
      unfold w_X16_single_38
      try simp only [forall_eq, rII, rIJ, rIP, rJJ, rJI, rJP, rPP, rPI, rPJ, g1, g2, g3, g4, g5, g6, g7, g8, Nat.reduceEqDiff, Nat.reduceAdd, false_and, and_false, true_and, and_true, reduceIte, nZ0, nZ1, hdm, hmd, hdj, hjd, sσ65_6.1, sσ65_6.2, pσ65, cσ65_19.1, cσ65_19.2]
      refine s2_X16_opens g rσ65 (by first | exact ps9 | exact PsI19 ps9) (by omega) (by omega) (fun σ97 _ rσ97 fc p21 => ?_) (fun σx E rx fx px => hX _ _ rx (FdO.tr fσ65 (FdO.mor (Fr.d fx hda (by decide)) (by decide) (by decide) (by decide))) px)
      have fσ97 : FdO ra jx rm da o [15, 16] [4, 5, 7, 8, 9, 10, 11, 12, 13, 19] [15, 16] σ σ97 := FdO.tr fσ65 (FdO.mor (Fr.d fc hda (by decide)) (by decide) (by decide) (by decide))
      have cσ97_9 := fc.2.1 9 (by decide)
      have cσ97_13 := fc.2.1 13 (by decide)
      have ps9 := p21.1; have cq9 := p21.2
      have pg9 := PgI.fr pg9 hda fc (by decide)
      have n17 := congrFun (Fr.ob fc hda (by decide)) 17
      (try simp only [rII, rIJ, rIP, rJJ, rJI, rJP, rPP, rPI, rPJ, g1, g2, g3, g4, g5, g6, g7, g8, Nat.reduceEqDiff, Nat.reduceAdd, false_and, and_false, true_and, and_true, reduceIte, nZ0, nZ1, hdm, hmd, hdj, hjd, sσ65_6.1, sσ65_6.2, pσ65, cσ65_19.1, cσ65_19.2] at n17)
      have okk : ∀ k, k ≠ 17 → gI σ97 da k = gI σ da k := fun k hk => (congrFun (Fr.ob fc hda (by decide)) k).trans (by (try simp only [rII, rIJ, rIP, rJJ, rJI, rJP, rPP, rPI, rPJ, g1, g2, g3, g4, g5, g6, g7, g8, Nat.reduceEqDiff, Nat.reduceAdd, false_and, and_false, true_and, and_true, reduceIte, nZ0, nZ1, hdm, hmd, hdj, hjd, sσ65_6.1, sσ65_6.2, pσ65, cσ65_19.1, cσ65_19.2]) <;> exact okk k hk)
      have le6 := PsI.le ps9
      have s6n := (fσ97.2.1 6 (by decide)).1
      have ded : dp (gI σ97 da 17) = dp (gI σ da 17) := by rw [n17]; exact de9
      have de9 := ded
      have sσ97_6 := fσ97.2.1 6 (by decide)
      have pσ97 := fσ97.2.2.2.1 (by decide)
      try simp only [rII, rIJ, rIP, rJJ, rJI, rJP, rPP, rPI, rPJ, g1, g2, g3, g4, g5, g6, g7, g8, Nat.reduceEqDiff, Nat.reduceAdd, false_and, and_false, true_and, and_true, reduceIte, nZ0, nZ1, hdm, hmd, hdj, hjd, sσ97_6.1, sσ97_6.2, pσ97, cσ65_19.1, cσ65_19.2, cσ97_9.1, cσ97_9.2, cσ97_13.1, cσ97_13.2] at p21
      try simp only [forall_eq, rII, rIJ, rIP, rJJ, rJI, rJP, rPP, rPI, rPJ, g1, g2, g3, g4, g5, g6, g7, g8, Nat.reduceEqDiff, Nat.reduceAdd, false_and, and_false, true_and, and_true, reduceIte, nZ0, nZ1, hdm, hmd, hdj, hjd, sσ97_6.1, sσ97_6.2, pσ97, cσ65_19.1, cσ65_19.2, cσ97_9.1, cσ97_9.2, cσ97_13.1, cσ97_13.2]
      refine ih6 (o := o) (dp := dp) (ex := ex) g rσ97 (by first | exact ps9 | exact PsI19 ps9) (by (try simp only [rII, rIJ, rIP, rJJ, rJI, rJP, rPP, rPI, rPJ, g1, g2, g3, g4, g5, g6, g7, g8, Nat.reduceEqDiff, Nat.reduceAdd, false_and, and_false, true_and, and_true, reduceIte, nZ0, nZ1, hdm, hmd, hdj, hjd, sσ97_6.1, sσ97_6.2, pσ97, cσ65_19.1, cσ65_19.2, cσ97_9.1, cσ97_9.2, cσ97_13.1, cσ97_13.2]) <;> first | exact hd | (rw [fσ97.2.2.2.1 (by decide)]; exact hd)) hda h1 (by (try simp only [rII, rIJ, rIP, rJJ, rJI, rJP, rPP, rPI, rPJ, g1, g2, g3, g4, g5, g6, g7, g8, Nat.reduceEqDiff, Nat.reduceAdd, false_and, and_false, true_and, and_true, reduceIte, nZ0, nZ1, hdm, hmd, hdj, hjd, sσ97_6.1, sσ97_6.2, pσ97, cσ65_19.1, cσ65_19.2, cσ97_9.1, cσ97_9.2, cσ97_13.1, cσ97_13.2]) <;> omega) (by exact pg9) (by (try simp only [rII, rIJ, rIP, rJJ, rJI, rJP, rPP, rPI, rPJ, g1, g2, g3, g4, g5, g6, g7, g8, Nat.reduceEqDiff, Nat.reduceAdd, false_and, and_false, true_and, and_true, reduceIte, nZ0, nZ1, hdm, hmd, hdj, hjd, sσ97_6.1, sσ97_6.2, pσ97, cσ65_19.1, cσ65_19.2, cσ97_9.1, cσ97_9.2, cσ97_13.1, cσ97_13.2]) <;> omega) (by (try simp only [rII, rIJ, rIP, rJJ, rJI, rJP, rPP, rPI, rPJ, g1, g2, g3, g4, g5, g6, g7, g8, Nat.reduceEqDiff, Nat.reduceAdd, false_and, and_false, true_and, and_true, reduceIte, nZ0, nZ1, hdm, hmd, hdj, hjd, sσ97_6.1, sσ97_6.2, pσ97, cσ65_19.1, cσ65_19.2, cσ97_9.1, cσ97_9.2, cσ97_13.1, cσ97_13.2]) <;> exact fun pc hp => hex pc (by omega)) (by (try simp only [rII, rIJ, rIP, rJJ, rJI, rJP, rPP, rPI, rPJ, g1, g2, g3, g4, g5, g6, g7, g8, Nat.reduceEqDiff, Nat.reduceAdd, false_and, and_false, true_and, and_true, reduceIte, nZ0, nZ1, hdm, hmd, hdj, hjd, sσ97_6.1, sσ97_6.2, pσ97, cσ65_19.1, cσ65_19.2, cσ97_9.1, cσ97_9.2, cσ97_13.1, cσ97_13.2]) <;> omega) (fun σ98 _ rσ98 fc p22 => ?_) (fun σx E rx fx px => hX _ _ rx (FdO.tr fσ97 (FdO.mor (fx) (by decide) (by decide) (by decide))) px)
      have fσ98 : FdO ra jx rm da o [15, 16] [4, 5, 7, 8, 9, 10, 11, 12, 13, 19] [15, 16] σ σ98 := FdO.tr fσ97 (FdO.mor (fc) (by decide) (by decide) (by decide))
      obtain ⟨⟨dq9, ag9, pg9, de9⟩, ps9, cq9, n19, nl9, ok9⟩ := p22
      have okk : ∀ k, k ≠ 17 → gI σ98 da k = gI σ da k := fun k hk => (ok9 k hk).trans (by (try simp only [rII, rIJ, rIP, rJJ, rJI, rJP, rPP, rPI, rPJ, g1, g2, g3, g4, g5, g6, g7, g8, Nat.reduceEqDiff, Nat.reduceAdd, false_and, and_false, true_and, and_true, reduceIte, nZ0, nZ1, hdm, hmd, hdj, hjd, sσ97_6.1, sσ97_6.2, pσ97, cσ65_19.1, cσ65_19.2, cσ97_9.1, cσ97_9.2, cσ97_13.1, cσ97_13.2]) <;> exact okk k hk)
      (try simp only [rII, rIJ, rIP, rJJ, rJI, rJP, rPP, rPI, rPJ, g1, g2, g3, g4, g5, g6, g7, g8, Nat.reduceEqDiff, Nat.reduceAdd, false_and, and_false, true_and, and_true, reduceIte, nZ0, nZ1, hdm, hmd, hdj, hjd, sσ97_6.1, sσ97_6.2, pσ97, cσ65_19.1, cσ65_19.2, cσ97_9.1, cσ97_9.2, cσ97_13.1, cσ97_13.2] at cq9 n19 nl9 ag9 de9)
      have eo9 : gI σ97 da 17 = gI σ da 17 := by omega
      (try rw [eo9] at de9)
      have ag9 : ∀ pc, pc ≤ gI σ da 17 → dq9 pc = dp pc := fun pc hp => ag9 pc (by omega)
      have le6 := PsI.le ps9
      have s6n := (fσ98.2.1 6 (by decide)).1
      have sσ98_6 := fσ98.2.1 6 (by decide)
      have pσ98 := fσ98.2.2.2.1 (by decide)
      try simp only [rII, rIJ, rIP, rJJ, rJI, rJP, rPP, rPI, rPJ, g1, g2, g3, g4, g5, g6, g7, g8, Nat.reduceEqDiff, Nat.reduceAdd, false_and, and_false, true_and, and_true, reduceIte, nZ0, nZ1, hdm, hmd, hdj, hjd, sσ98_6.1, sσ98_6.2, pσ98, cσ65_19.1, cσ65_19.2, cσ97_9.1, cσ97_9.2, cσ97_13.1, cσ97_13.2] at p22
      try simp only [forall_eq, rII, rIJ, rIP, rJJ, rJI, rJP, rPP, rPI, rPJ, g1, g2, g3, g4, g5, g6, g7, g8, Nat.reduceEqDiff, Nat.reduceAdd, false_and, and_false, true_and, and_true, reduceIte, nZ0, nZ1, hdm, hmd, hdj, hjd, sσ98_6.1, sσ98_6.2, pσ98, cσ65_19.1, cσ65_19.2, cσ97_9.1, cσ97_9.2, cσ97_13.1, cσ97_13.2]
      refine ⟨da, by exact hd, hda, ?_⟩
      refine s2_X15_step (o := o) g rσ98 hda (by first | omega | (have tk9 := PsI.tok ps9 (by omega) (by omega); omega)) (by omega) (fun σ100 r101 rσ100 fc p23 => ?_)
      have fσ100 : FdO ra jx rm da o [15, 16] [4, 5, 7, 8, 9, 10, 11, 12, 13, 19] [15, 16] σ σ100 := FdO.tr fσ98 (FdO.mor (fc) (by decide) (by decide) (by decide))
      have cσ100_8 := fc.2.1 8 (by decide)
      have cσ100_9 := fc.2.1 9 (by decide)
      have cσ100_13 := fc.2.1 13 (by decide)
      have cσ100_19 := fc.2.1 19 (by decide)
      have st0 := p23.1; have st1 := p23.2.1; have st2 := p23.2.2.1; have st3 := p23.2.2.2.1
      have okk : ∀ k, k ≠ 17 → gI σ100 da k = gI σ da k := fun k hk => by rw [p23.2.2.2.2 k hk]; exact okk k hk
      have pf9 := PsI.frj ps9 (FdO.fj fc) (by decide)
      have ps9 := pf9.1; have cq9 := pf9.2
      have n19 := (fc.2.1 19 (by decide)).1
      have le6 := PsI.le ps9
      have s6n := (fσ100.2.1 6 (by decide)).1
      obtain ⟨dq9, ag8, pg9, de8⟩ := PgI.putE (d' := dp (gI σ da 17) + 1) pg9 (by omega) st1 st2 st3 de9 (by omega) (by omega) (Or.inr (Or.inl ⟨by omega, by omega, by omega⟩))
      have ag9 : ∀ pc, pc ≤ gI σ da 17 → dq9 pc = dp pc := fun pc hp => (ag8 pc (by omega)).trans (ag9 pc hp)
      have de9 := de8
      have sσ100_6 := fσ100.2.1 6 (by decide)
      have pσ100 := fσ100.2.2.2.1 (by decide)
      try simp only [rII, rIJ, rIP, rJJ, rJI, rJP, rPP, rPI, rPJ, g1, g2, g3, g4, g5, g6, g7, g8, Nat.reduceEqDiff, Nat.reduceAdd, false_and, and_false, true_and, and_true, reduceIte, nZ0, nZ1, hdm, hmd, hdj, hjd, sσ100_6.1, sσ100_6.2, pσ100, cσ65_19.1, cσ65_19.2, cσ97_9.1, cσ97_9.2, cσ97_13.1, cσ97_13.2, cσ100_8.1, cσ100_8.2, cσ100_9.1, cσ100_9.2, cσ100_13.1, cσ100_13.2, cσ100_19.1, cσ100_19.2] at p23
      try simp only [forall_eq, rII, rIJ, rIP, rJJ, rJI, rJP, rPP, rPI, rPJ, g1, g2, g3, g4, g5, g6, g7, g8, Nat.reduceEqDiff, Nat.reduceAdd, false_and, and_false, true_and, and_true, reduceIte, nZ0, nZ1, hdm, hmd, hdj, hjd, sσ100_6.1, sσ100_6.2, pσ100, cσ65_19.1, cσ65_19.2, cσ97_9.1, cσ97_9.2, cσ97_13.1, cσ97_13.2, cσ100_8.1, cσ100_8.2, cσ100_9.1, cσ100_9.2, cσ100_13.1, cσ100_13.2, cσ100_19.1, cσ100_19.2]
      have q24 := rσ98.2.1 19; simp only [rgS, hdm, hmd, hdj, hjd] at q24
      refine ⟨by (first | omega | with_reducible assumption | (unfold rng; omega) | (unfold rng; (repeat' split) <;> omega) | decide), ?_⟩
      unfold w_X16_single_201
      try simp only [forall_eq, rII, rIJ, rIP, rJJ, rJI, rJP, rPP, rPI, rPJ, g1, g2, g3, g4, g5, g6, g7, g8, Nat.reduceEqDiff, Nat.reduceAdd, false_and, and_false, true_and, and_true, reduceIte, nZ0, nZ1, hdm, hmd, hdj, hjd, sσ100_6.1, sσ100_6.2, pσ100, cσ65_19.1, cσ65_19.2, cσ97_9.1, cσ97_9.2, cσ97_13.1, cσ97_13.2, cσ100_8.1, cσ100_8.2, cσ100_9.1, cσ100_9.2, cσ100_13.1, cσ100_13.2, cσ100_19.1, cσ100_19.2]
      refine hQ _ _ ?_ ?_ ?_
      · refine Rg.sI g ?_ (by simp only [rgS]; first | with_reducible exact nZ_rng _ | with_reducible exact nB_rng _ | with_reducible exact wr_rng _ | with_reducible exact i32any _ | (first | omega | with_reducible assumption | (unfold rng; omega) | (unfold rng; (repeat' split) <;> omega) | decide)); exact rσ100
      · refine FdO.sI g ?_ hda (by decide); exact fσ100
      · first | exact ⟨⟨dq9, ag9, pg9, by omega⟩, ps9, by omega, by omega, by omega, okk⟩ | (exact ⟨⟨dq9, ag9, PgI.fr (K := []) (S := [19]) pg9 hda (by repeat (first | exact Fr.rf | assumption | refine Fr.aJ g ?_ (by decide) | refine Fr.aI g ?_ (by decide) | refine Fr.sI g ?_ (by decide) | refine Fr.sJ g ?_ (by decide))) (by decide), by (try simp only [rII, rIJ, rIP, rJJ, rJI, rJP, rPP, rPI, rPJ, g1, g2, g3, g4, g5, g6, g7, g8, Nat.reduceEqDiff, Nat.reduceAdd, false_and, and_false, true_and, and_true, reduceIte, nZ0, nZ1, hdm, hmd, hdj, hjd, sσ100_6.1, sσ100_6.2, pσ100, cσ65_19.1, cσ65_19.2, cσ97_9.1, cσ97_9.2, cσ97_13.1, cσ97_13.2, cσ100_8.1, cσ100_8.2, cσ100_9.1, cσ100_9.2, cσ100_13.1, cσ100_13.2, cσ100_19.1, cσ100_19.2]) <;> omega⟩, PsI19 ps9, by rw [cn19]; (try simp only [rII, rIJ, rIP, rJJ, rJI, rJP, rPP, rPI, rPJ, g1, g2, g3, g4, g5, g6, g7, g8, Nat.reduceEqDiff, Nat.reduceAdd, false_and, and_false, true_and, and_true, reduceIte, nZ0, nZ1, hdm, hmd, hdj, hjd, sσ100_6.1, sσ100_6.2, pσ100, cσ65_19.1, cσ65_19.2, cσ97_9.1, cσ97_9.2, cσ97_13.1, cσ97_13.2, cσ100_8.1, cσ100_8.2, cσ100_9.1, cσ100_9.2, cσ100_13.1, cσ100_13.2, cσ100_19.1, cσ100_19.2]) <;> omega, by (try simp only [rII, rIJ, rIP, rJJ, rJI, rJP, rPP, rPI, rPJ, g1, g2, g3, g4, g5, g6, g7, g8, Nat.reduceEqDiff, Nat.reduceAdd, false_and, and_false, true_and, and_true, reduceIte, nZ0, nZ1, hdm, hmd, hdj, hjd, sσ100_6.1, sσ100_6.2, pσ100, cσ65_19.1, cσ65_19.2, cσ97_9.1, cσ97_9.2, cσ97_13.1, cσ97_13.2, cσ100_8.1, cσ100_8.2, cσ100_9.1, cσ100_9.2, cσ100_13.1, cσ100_13.2, cσ100_19.1, cσ100_19.2]) <;> omega, by (try simp only [rII, rIJ, rIP, rJJ, rJI, rJP, rPP, rPI, rPJ, g1, g2, g3, g4, g5, g6, g7, g8, Nat.reduceEqDiff, Nat.reduceAdd, false_and, and_false, true_and, and_true, reduceIte, nZ0, nZ1, hdm, hmd, hdj, hjd, sσ100_6.1, sσ100_6.2, pσ100, cσ65_19.1, cσ65_19.2, cσ97_9.1, cσ97_9.2, cσ97_13.1, cσ97_13.2, cσ100_8.1, cσ100_8.2, cσ100_9.1, cσ100_9.2, cσ100_13.1, cσ100_13.2, cσ100_19.1, cσ100_19.2]) <;> omega, fun k hk => by (try simp only [rII, rIJ, rIP, rJJ, rJI, rJP, rPP, rPI, rPJ, g1, g2, g3, g4, g5, g6, g7, g8, Nat.reduceEqDiff, Nat.reduceAdd, false_and, and_false, true_and, and_true, reduceIte, nZ0, nZ1, hdm, hmd, hdj, hjd, sσ100_6.1, sσ100_6.2, pσ100, cσ65_19.1, cσ65_19.2, cσ97_9.1, cσ97_9.2, cσ97_13.1, cσ97_13.2, cσ100_8.1, cσ100_8.2, cσ100_9.1, cσ100_9.2, cσ100_13.1, cσ100_13.2, cσ100_19.1, cσ100_19.2]) <;> exact okk k hk⟩)


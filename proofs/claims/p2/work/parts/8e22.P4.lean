set_option maxHeartbeats 2000000 in
theorem s_X16_within {ra : Nat → Nat} {jx : Nat → Nat → Nat} {rm : Nat} (g : Geo ra jx rm) {σ : Sg} {v0 : Int64} {v2 : Int64} {v4 : Int64} (rσ : Rg ra jx rm σ) {Q : Sg → Int → Prop} {X : Sg → String → Prop} (hQ : ∀ (r : Int), ((r = 0 ∨ r = 1) ∧ (r = 1 → v2 ≤ v0 ∧ v0 ≤ v4)) → Q σ r) : wp_X16_within ra jx rm v0 v2 v4 σ Q X := by
  obtain ⟨g1, g2, g3, g4, g5, g6, g7, g8⟩ := id g
  have fσ : Fr ra jx rm [] [] σ σ := Fr.rf
  unfold wp_X16_within
  unfold w_X16_within_0
  try simp only [forall_eq, rII, rIJ, rIP, rJJ, rJI, rJP, rPP, rPI, rPJ, g1, g2, g3, g4, g5, g6, g7, g8, Nat.reduceEqDiff, Nat.reduceAdd, false_and, and_false, true_and, and_true, reduceIte, nZ0, nZ1]
  split
  · rename_i hc3
    skip
    unfold w_X16_within_17
    try simp only [forall_eq, rII, rIJ, rIP, rJJ, rJI, rJP, rPP, rPI, rPJ, g1, g2, g3, g4, g5, g6, g7, g8, Nat.reduceEqDiff, Nat.reduceAdd, false_and, and_false, true_and, and_true, reduceIte, nZ0, nZ1]
    unfold w_X16_within_18
    try simp only [forall_eq, rII, rIJ, rIP, rJJ, rJI, rJP, rPP, rPI, rPJ, g1, g2, g3, g4, g5, g6, g7, g8, Nat.reduceEqDiff, Nat.reduceAdd, false_and, and_false, true_and, and_true, reduceIte, nZ0, nZ1]
    refine ⟨by (first | omega | with_reducible assumption | (unfold rng; omega) | (unfold rng; (repeat' split) <;> omega) | grind), ?_⟩
    refine hQ _ ?_
    · first | exact ⟨Or.inl rfl, fun q => absurd q (by decide)⟩ | exact ⟨Or.inr rfl, fun _ => ⟨by grind, by grind⟩⟩
  · rename_i hc3
    skip
    unfold w_X16_within_6
    try simp only [forall_eq, rII, rIJ, rIP, rJJ, rJI, rJP, rPP, rPI, rPJ, g1, g2, g3, g4, g5, g6, g7, g8, Nat.reduceEqDiff, Nat.reduceAdd, false_and, and_false, true_and, and_true, reduceIte, nZ0, nZ1]
    split
    · rename_i hc10
      skip
      unfold w_X16_within_17
      try simp only [forall_eq, rII, rIJ, rIP, rJJ, rJI, rJP, rPP, rPI, rPJ, g1, g2, g3, g4, g5, g6, g7, g8, Nat.reduceEqDiff, Nat.reduceAdd, false_and, and_false, true_and, and_true, reduceIte, nZ0, nZ1]
      unfold w_X16_within_18
      try simp only [forall_eq, rII, rIJ, rIP, rJJ, rJI, rJP, rPP, rPI, rPJ, g1, g2, g3, g4, g5, g6, g7, g8, Nat.reduceEqDiff, Nat.reduceAdd, false_and, and_false, true_and, and_true, reduceIte, nZ0, nZ1]
      refine ⟨by (first | omega | with_reducible assumption | (unfold rng; omega) | (unfold rng; (repeat' split) <;> omega) | grind), ?_⟩
      refine hQ _ ?_
      · first | exact ⟨Or.inl rfl, fun q => absurd q (by decide)⟩ | exact ⟨Or.inr rfl, fun _ => ⟨by grind, by grind⟩⟩
    · rename_i hc10
      skip
      unfold w_X16_within_13
      try simp only [forall_eq, rII, rIJ, rIP, rJJ, rJI, rJP, rPP, rPI, rPJ, g1, g2, g3, g4, g5, g6, g7, g8, Nat.reduceEqDiff, Nat.reduceAdd, false_and, and_false, true_and, and_true, reduceIte, nZ0, nZ1]
      unfold w_X16_within_18
      try simp only [forall_eq, rII, rIJ, rIP, rJJ, rJI, rJP, rPP, rPI, rPJ, g1, g2, g3, g4, g5, g6, g7, g8, Nat.reduceEqDiff, Nat.reduceAdd, false_and, and_false, true_and, and_true, reduceIte, nZ0, nZ1]
      refine ⟨by (first | omega | with_reducible assumption | (unfold rng; omega) | (unfold rng; (repeat' split) <;> omega) | grind), ?_⟩
      refine hQ _ ?_
      · first | exact ⟨Or.inl rfl, fun q => absurd q (by decide)⟩ | exact ⟨Or.inr rfl, fun _ => ⟨by grind, by grind⟩⟩
set_option maxHeartbeats 2000000 in
theorem s_X16_isSingle {ra : Nat → Nat} {jx : Nat → Nat → Nat} {rm : Nat} {ja : Nat} (g : Geo ra jx rm) {σ : Sg} {v1 : Int} (rσ : Rg ra jx rm σ) (hj : gP σ rm 17 = some ja) (hja : ja = ra 15 ∨ ja = ra 16) (ho : 0 ≤ v1 ∧ v1 < 16) {Q : Sg → Int → Prop} {X : Sg → String → Prop} (hQ : ∀ (r : Int), ((r = 1 ∧ (gI σ (jx ja 2) v1.toNat = 0 ∨ gI σ (jx ja 2) v1.toNat = 10 ∨ gI σ (jx ja 2) v1.toNat = 11)) ∨ (r = 0 ∧ ¬ (gI σ (jx ja 2) v1.toNat = 0 ∨ gI σ (jx ja 2) v1.toNat = 10 ∨ gI σ (jx ja 2) v1.toNat = 11))) → Q σ r) : wp_X16_isSingle ra jx rm v1 σ Q X := by
  obtain ⟨g1, g2, g3, g4, g5, g6, g7, g8⟩ := id g
  have fσ : Fr ra jx rm [] [] σ σ := Fr.rf
  unfold wp_X16_isSingle
  unfold w_X16_isSingle_0
  try simp only [forall_eq, rII, rIJ, rIP, rJJ, rJI, rJP, rPP, rPI, rPJ, g1, g2, g3, g4, g5, g6, g7, g8, Nat.reduceEqDiff, Nat.reduceAdd, false_and, and_false, true_and, and_true, reduceIte, nZ0, nZ1]
  refine ⟨ja, by exact hj, hja, ?_⟩
  refine ⟨by (first | omega | with_reducible assumption | (unfold rng; omega) | (unfold rng; (repeat' split) <;> omega) | grind), ?_⟩
  have q1 := rσ.2.2.1 ja 2 (v1.toNat); simp only [rgJ] at q1
  split
  · rename_i hc11
    skip
    unfold w_X16_isSingle_26
    try simp only [forall_eq, rII, rIJ, rIP, rJJ, rJI, rJP, rPP, rPI, rPJ, g1, g2, g3, g4, g5, g6, g7, g8, Nat.reduceEqDiff, Nat.reduceAdd, false_and, and_false, true_and, and_true, reduceIte, nZ0, nZ1]
    unfold w_X16_isSingle_31
    try simp only [forall_eq, rII, rIJ, rIP, rJJ, rJI, rJP, rPP, rPI, rPJ, g1, g2, g3, g4, g5, g6, g7, g8, Nat.reduceEqDiff, Nat.reduceAdd, false_and, and_false, true_and, and_true, reduceIte, nZ0, nZ1]
    refine ⟨by (first | omega | with_reducible assumption | (unfold rng; omega) | (unfold rng; (repeat' split) <;> omega) | grind), ?_⟩
    refine hQ _ ?_
    · (try simp only [rII, rIJ, rIP, rJJ, rJI, rJP, rPP, rPI, rPJ, g1, g2, g3, g4, g5, g6, g7, g8, Nat.reduceEqDiff, Nat.reduceAdd, false_and, and_false, true_and, and_true, reduceIte, nZ0, nZ1]) <;> (first | omega | with_reducible assumption | (unfold rng; omega) | (unfold rng; (repeat' split) <;> omega) | grind)
  · rename_i hc11
    skip
    unfold w_X16_isSingle_14
    try simp only [forall_eq, rII, rIJ, rIP, rJJ, rJI, rJP, rPP, rPI, rPJ, g1, g2, g3, g4, g5, g6, g7, g8, Nat.reduceEqDiff, Nat.reduceAdd, false_and, and_false, true_and, and_true, reduceIte, nZ0, nZ1]
    split
    · rename_i hc17
      skip
      unfold w_X16_isSingle_26
      try simp only [forall_eq, rII, rIJ, rIP, rJJ, rJI, rJP, rPP, rPI, rPJ, g1, g2, g3, g4, g5, g6, g7, g8, Nat.reduceEqDiff, Nat.reduceAdd, false_and, and_false, true_and, and_true, reduceIte, nZ0, nZ1]
      unfold w_X16_isSingle_31
      try simp only [forall_eq, rII, rIJ, rIP, rJJ, rJI, rJP, rPP, rPI, rPJ, g1, g2, g3, g4, g5, g6, g7, g8, Nat.reduceEqDiff, Nat.reduceAdd, false_and, and_false, true_and, and_true, reduceIte, nZ0, nZ1]
      refine ⟨by (first | omega | with_reducible assumption | (unfold rng; omega) | (unfold rng; (repeat' split) <;> omega) | grind), ?_⟩
      refine hQ _ ?_
      · (try simp only [rII, rIJ, rIP, rJJ, rJI, rJP, rPP, rPI, rPJ, g1, g2, g3, g4, g5, g6, g7, g8, Nat.reduceEqDiff, Nat.reduceAdd, false_and, and_false, true_and, and_true, reduceIte, nZ0, nZ1]) <;> (first | omega | with_reducible assumption | (unfold rng; omega) | (unfold rng; (repeat' split) <;> omega) | grind)
    · rename_i hc17
      skip
      unfold w_X16_isSingle_20
      try simp only [forall_eq, rII, rIJ, rIP, rJJ, rJI, rJP, rPP, rPI, rPJ, g1, g2, g3, g4, g5, g6, g7, g8, Nat.reduceEqDiff, Nat.reduceAdd, false_and, and_false, true_and, and_true, reduceIte, nZ0, nZ1]
      split
      · rename_i hc23
        skip
        unfold w_X16_isSingle_30
        try simp only [forall_eq, rII, rIJ, rIP, rJJ, rJI, rJP, rPP, rPI, rPJ, g1, g2, g3, g4, g5, g6, g7, g8, Nat.reduceEqDiff, Nat.reduceAdd, false_and, and_false, true_and, and_true, reduceIte, nZ0, nZ1]
        unfold w_X16_isSingle_31
        try simp only [forall_eq, rII, rIJ, rIP, rJJ, rJI, rJP, rPP, rPI, rPJ, g1, g2, g3, g4, g5, g6, g7, g8, Nat.reduceEqDiff, Nat.reduceAdd, false_and, and_false, true_and, and_true, reduceIte, nZ0, nZ1]
        refine ⟨by (first | omega | with_reducible assumption | (unfold rng; omega) | (unfold rng; (repeat' split) <;> omega) | grind), ?_⟩
        refine hQ _ ?_
        · (try simp only [rII, rIJ, rIP, rJJ, rJI, rJP, rPP, rPI, rPJ, g1, g2, g3, g4, g5, g6, g7, g8, Nat.reduceEqDiff, Nat.reduceAdd, false_and, and_false, true_and, and_true, reduceIte, nZ0, nZ1]) <;> (first | omega | with_reducible assumption | (unfold rng; omega) | (unfold rng; (repeat' split) <;> omega) | grind)
      · rename_i hc23
        skip
        unfold w_X16_isSingle_26
        try simp only [forall_eq, rII, rIJ, rIP, rJJ, rJI, rJP, rPP, rPI, rPJ, g1, g2, g3, g4, g5, g6, g7, g8, Nat.reduceEqDiff, Nat.reduceAdd, false_and, and_false, true_and, and_true, reduceIte, nZ0, nZ1]
        unfold w_X16_isSingle_31
        try simp only [forall_eq, rII, rIJ, rIP, rJJ, rJI, rJP, rPP, rPI, rPJ, g1, g2, g3, g4, g5, g6, g7, g8, Nat.reduceEqDiff, Nat.reduceAdd, false_and, and_false, true_and, and_true, reduceIte, nZ0, nZ1]
        refine ⟨by (first | omega | with_reducible assumption | (unfold rng; omega) | (unfold rng; (repeat' split) <;> omega) | grind), ?_⟩
        refine hQ _ ?_
        · (try simp only [rII, rIJ, rIP, rJJ, rJI, rJP, rPP, rPI, rPJ, g1, g2, g3, g4, g5, g6, g7, g8, Nat.reduceEqDiff, Nat.reduceAdd, false_and, and_false, true_and, and_true, reduceIte, nZ0, nZ1]) <;> (first | omega | with_reducible assumption | (unfold rng; omega) | (unfold rng; (repeat' split) <;> omega) | grind)
set_option maxHeartbeats 2000000 in
theorem s_X16_isKeyed {ra : Nat → Nat} {jx : Nat → Nat → Nat} {rm : Nat} {ja : Nat} (g : Geo ra jx rm) {σ : Sg} {v1 : Int} (rσ : Rg ra jx rm σ) (hj : gP σ rm 17 = some ja) (hja : ja = ra 15 ∨ ja = ra 16) (ho : 0 ≤ v1 ∧ v1 < 16) {Q : Sg → Int → Prop} {X : Sg → String → Prop} (hQ : ∀ (r : Int), (r = 0 ∨ r = 1) → Q σ r) : wp_X16_isKeyed ra jx rm v1 σ Q X := by
  obtain ⟨g1, g2, g3, g4, g5, g6, g7, g8⟩ := id g
  have fσ : Fr ra jx rm [] [] σ σ := Fr.rf
  unfold wp_X16_isKeyed
  unfold w_X16_isKeyed_0
  try simp only [forall_eq, rII, rIJ, rIP, rJJ, rJI, rJP, rPP, rPI, rPJ, g1, g2, g3, g4, g5, g6, g7, g8, Nat.reduceEqDiff, Nat.reduceAdd, false_and, and_false, true_and, and_true, reduceIte, nZ0, nZ1]
  refine ⟨ja, by exact hj, hja, ?_⟩
  refine ⟨by (first | omega | with_reducible assumption | (unfold rng; omega) | (unfold rng; (repeat' split) <;> omega) | grind), ?_⟩
  refine s_X16_within g rσ (fun r9 p1 => ?_)
  obtain ⟨p1, p1b⟩ := p1
  have q2 := rσ.2.2.1 ja 2 (v1.toNat); simp only [rgJ] at q2
  have p1w : r9 = 1 → 4 ≤ (gI σ (jx ja 2) v1.toNat) ∧ (gI σ (jx ja 2) v1.toNat) ≤ 9 := fun e => win (by (first | omega | with_reducible assumption | (unfold rng; omega) | (unfold rng; (repeat' split) <;> omega) | grind)) (p1b e)
  try simp only [forall_eq, rII, rIJ, rIP, rJJ, rJI, rJP, rPP, rPI, rPJ, g1, g2, g3, g4, g5, g6, g7, g8, Nat.reduceEqDiff, Nat.reduceAdd, false_and, and_false, true_and, and_true, reduceIte, nZ0, nZ1]
  refine ⟨by (first | omega | with_reducible assumption | (unfold rng; omega) | (unfold rng; (repeat' split) <;> omega) | grind), ?_⟩
  refine hQ _ ?_
  · (try simp only [rII, rIJ, rIP, rJJ, rJI, rJP, rPP, rPI, rPJ, g1, g2, g3, g4, g5, g6, g7, g8, Nat.reduceEqDiff, Nat.reduceAdd, false_and, and_false, true_and, and_true, reduceIte, nZ0, nZ1]) <;> (first | omega | with_reducible assumption | (unfold rng; omega) | (unfold rng; (repeat' split) <;> omega) | grind)
set_option maxHeartbeats 2000000 in
theorem s_X16_partsOf {ra : Nat → Nat} {jx : Nat → Nat → Nat} {rm : Nat} {ja : Nat} (g : Geo ra jx rm) {σ : Sg} {v1 : Int} (rσ : Rg ra jx rm σ) (hj : gP σ rm 17 = some ja) (hja : ja = ra 15 ∨ ja = ra 16) (ho : 0 ≤ v1 ∧ v1 < 16) {Q : Sg → Int → Prop} {X : Sg → String → Prop} (hQ : ∀ (r : Int), ((r = 1 ∧ (gI σ (jx ja 2) v1.toNat = 0 ∨ gI σ (jx ja 2) v1.toNat = 10 ∨ gI σ (jx ja 2) v1.toNat = 11)) ∨ (r = gI σ rm 33 ∧ ¬ (gI σ (jx ja 2) v1.toNat = 0 ∨ gI σ (jx ja 2) v1.toNat = 10 ∨ gI σ (jx ja 2) v1.toNat = 11))) → Q σ r) : wp_X16_partsOf ra jx rm v1 σ Q X := by
  obtain ⟨g1, g2, g3, g4, g5, g6, g7, g8⟩ := id g
  have fσ : Fr ra jx rm [] [] σ σ := Fr.rf
  unfold wp_X16_partsOf
  unfold w_X16_partsOf_0
  try simp only [forall_eq, rII, rIJ, rIP, rJJ, rJI, rJP, rPP, rPI, rPJ, g1, g2, g3, g4, g5, g6, g7, g8, Nat.reduceEqDiff, Nat.reduceAdd, false_and, and_false, true_and, and_true, reduceIte, nZ0, nZ1]
  refine s_X16_isSingle g rσ (by first | exact hj | (rw [fσ.2.2.2]; exact hj)) hja (by (try simp only [rII, rIJ, rIP, rJJ, rJI, rJP, rPP, rPI, rPJ, g1, g2, g3, g4, g5, g6, g7, g8, Nat.reduceEqDiff, Nat.reduceAdd, false_and, and_false, true_and, and_true, reduceIte, nZ0, nZ1]) <;> (first | omega | with_reducible assumption | (unfold rng; omega) | (unfold rng; (repeat' split) <;> omega) | grind)) (fun r6 p1 => ?_)
  try simp only [forall_eq, rII, rIJ, rIP, rJJ, rJI, rJP, rPP, rPI, rPJ, g1, g2, g3, g4, g5, g6, g7, g8, Nat.reduceEqDiff, Nat.reduceAdd, false_and, and_false, true_and, and_true, reduceIte, nZ0, nZ1]
  split
  · rename_i hc5
    skip
    unfold w_X16_partsOf_12
    try simp only [forall_eq, rII, rIJ, rIP, rJJ, rJI, rJP, rPP, rPI, rPJ, g1, g2, g3, g4, g5, g6, g7, g8, Nat.reduceEqDiff, Nat.reduceAdd, false_and, and_false, true_and, and_true, reduceIte, nZ0, nZ1]
    unfold w_X16_partsOf_16
    try simp only [forall_eq, rII, rIJ, rIP, rJJ, rJI, rJP, rPP, rPI, rPJ, g1, g2, g3, g4, g5, g6, g7, g8, Nat.reduceEqDiff, Nat.reduceAdd, false_and, and_false, true_and, and_true, reduceIte, nZ0, nZ1]
    have q2 := rσ.2.1 33; simp only [rgS] at q2
    refine hQ _ ?_
    · (try simp only [rII, rIJ, rIP, rJJ, rJI, rJP, rPP, rPI, rPJ, g1, g2, g3, g4, g5, g6, g7, g8, Nat.reduceEqDiff, Nat.reduceAdd, false_and, and_false, true_and, and_true, reduceIte, nZ0, nZ1]) <;> (first | omega | with_reducible assumption | (unfold rng; omega) | (unfold rng; (repeat' split) <;> omega) | grind)
  · rename_i hc5
    skip
    unfold w_X16_partsOf_8
    try simp only [forall_eq, rII, rIJ, rIP, rJJ, rJI, rJP, rPP, rPI, rPJ, g1, g2, g3, g4, g5, g6, g7, g8, Nat.reduceEqDiff, Nat.reduceAdd, false_and, and_false, true_and, and_true, reduceIte, nZ0, nZ1]
    unfold w_X16_partsOf_16
    try simp only [forall_eq, rII, rIJ, rIP, rJJ, rJI, rJP, rPP, rPI, rPJ, g1, g2, g3, g4, g5, g6, g7, g8, Nat.reduceEqDiff, Nat.reduceAdd, false_and, and_false, true_and, and_true, reduceIte, nZ0, nZ1]
    refine hQ _ ?_
    · (try simp only [rII, rIJ, rIP, rJJ, rJI, rJP, rPP, rPI, rPJ, g1, g2, g3, g4, g5, g6, g7, g8, Nat.reduceEqDiff, Nat.reduceAdd, false_and, and_false, true_and, and_true, reduceIte, nZ0, nZ1]) <;> (first | omega | with_reducible assumption | (unfold rng; omega) | (unfold rng; (repeat' split) <;> omega) | grind)
set_option maxHeartbeats 2000000 in
theorem s_X16_newSet {ra : Nat → Nat} {jx : Nat → Nat → Nat} {rm : Nat} (g : Geo ra jx rm) {σ : Sg} (rσ : Rg ra jx rm σ) {Q : Sg → Int → Prop} {X : Sg → String → Prop} (hQ : ∀ (σ' : Sg) (r : Int), Rg ra jx rm σ' → Fr ra jx rm [26] [27] σ σ' → (0 ≤ r ∧ r < 30000) → Q σ' r) (hX : ∀ (σ' : Sg) (E : String), Rg ra jx rm σ' → Fr ra jx rm [26] [27] σ σ' → (E = "StreamHouseModel$Broken") → X σ' E) : wp_X16_newSet ra jx rm σ Q X := by
  obtain ⟨g1, g2, g3, g4, g5, g6, g7, g8⟩ := id g
  have fσ : Fr ra jx rm [26] [27] σ σ := Fr.rf
  unfold wp_X16_newSet
  unfold w_X16_newSet_0
  try simp only [forall_eq, rII, rIJ, rIP, rJJ, rJI, rJP, rPP, rPI, rPJ, g1, g2, g3, g4, g5, g6, g7, g8, Nat.reduceEqDiff, Nat.reduceAdd, false_and, and_false, true_and, and_true, reduceIte, nZ0, nZ1]
  have q1 := rσ.2.1 27; simp only [rgS] at q1
  split
  · rename_i hc7
    skip
    unfold w_X16_newSet_15
    try simp only [forall_eq, rII, rIJ, rIP, rJJ, rJI, rJP, rPP, rPI, rPJ, g1, g2, g3, g4, g5, g6, g7, g8, Nat.reduceEqDiff, Nat.reduceAdd, false_and, and_false, true_and, and_true, reduceIte, nZ0, nZ1]
    have L17 : ∀ (fu17 : Nat) (τ17 : Sg) (v1 : Int), Rg ra jx rm τ17 → Fr ra jx rm [26] [27] σ τ17 → (0 ≤ v1 ∧ v1 ≤ 4 ∧ gI τ17 rm 27 = gI σ rm 27) → ((4 - v1).toNat) < fu17 → wl_X16_newSet_17 ra jx rm Q X fu17 τ17 v1 := by
      intro fu17
      induction fu17 with
      | zero => intro τ17 _ _ _ _ h9; omega
      | succ fu17 ih17 =>
        intro τ17 v1 rτ17 fτ17 hi17 hm17
        unfold wl_X16_newSet_17
        have jτ17 := fτ17.2.2.1
        unfold w_X16_newSet_17
        try simp only [forall_eq, rII, rIJ, rIP, rJJ, rJI, rJP, rPP, rPI, rPJ, g1, g2, g3, g4, g5, g6, g7, g8, Nat.reduceEqDiff, Nat.reduceAdd, false_and, and_false, true_and, and_true, reduceIte, nZ0, nZ1, fun a k => (jτ17 a k).1, fun a k => (jτ17 a k).2]
        split
        · rename_i hc19
          skip
          unfold w_X16_newSet_42
          try simp only [forall_eq, rII, rIJ, rIP, rJJ, rJI, rJP, rPP, rPI, rPJ, g1, g2, g3, g4, g5, g6, g7, g8, Nat.reduceEqDiff, Nat.reduceAdd, false_and, and_false, true_and, and_true, reduceIte, nZ0, nZ1, fun a k => (jτ17 a k).1, fun a k => (jτ17 a k).2]
          have q2 := rτ17.2.1 27; simp only [rgS] at q2
          refine ⟨by (first | omega | with_reducible assumption | (unfold rng; omega) | (unfold rng; (repeat' split) <;> omega) | grind), ?_⟩
          refine ⟨by (first | omega | with_reducible assumption | (unfold rng; omega) | (unfold rng; (repeat' split) <;> omega) | grind), ?_⟩
          refine hQ _ _ ?_ ?_ ?_
          · refine Rg.sI g ?_ (by simp only [rgS]; first | with_reducible exact nZ_rng _ | with_reducible exact nB_rng _ | with_reducible exact wr_rng _ | with_reducible exact i32any _ | (first | omega | with_reducible assumption | (unfold rng; omega) | (unfold rng; (repeat' split) <;> omega) | grind)); exact rτ17
          · refine Fr.sI g ?_ (by decide); exact fτ17
          · (try simp only [rII, rIJ, rIP, rJJ, rJI, rJP, rPP, rPI, rPJ, g1, g2, g3, g4, g5, g6, g7, g8, Nat.reduceEqDiff, Nat.reduceAdd, false_and, and_false, true_and, and_true, reduceIte, nZ0, nZ1, fun a k => (jτ17 a k).1, fun a k => (jτ17 a k).2]) <;> (first | omega | with_reducible assumption | (unfold rng; omega) | (unfold rng; (repeat' split) <;> omega) | grind)
        · rename_i hc19
          skip
          unfold w_X16_newSet_22
          try simp only [forall_eq, rII, rIJ, rIP, rJJ, rJI, rJP, rPP, rPI, rPJ, g1, g2, g3, g4, g5, g6, g7, g8, Nat.reduceEqDiff, Nat.reduceAdd, false_and, and_false, true_and, and_true, reduceIte, nZ0, nZ1, fun a k => (jτ17 a k).1, fun a k => (jτ17 a k).2]
          have q3 := rτ17.2.1 27; simp only [rgS] at q3
          refine ⟨by (first | omega | with_reducible assumption | (unfold rng; omega) | (unfold rng; (repeat' split) <;> omega) | grind), ?_⟩
          refine ⟨by (first | omega | with_reducible assumption | (unfold rng; omega) | (unfold rng; (repeat' split) <;> omega) | grind), ?_⟩
          refine ⟨by (first | omega | with_reducible assumption | (unfold rng; omega) | (unfold rng; (repeat' split) <;> omega) | grind), ?_⟩
          refine ⟨by (first | omega | with_reducible assumption | (unfold rng; omega) | (unfold rng; (repeat' split) <;> omega) | grind), ?_⟩
          refine ih17 _ _ ?_ ?_ ?_ ?_
          · refine Rg.aJ g ?_ (by simp only [rlT]; first | with_reducible assumption | omega | exact Int64.toInt_le _ | (rw [Int64.toInt_ofInt_of_le (by omega) (by omega)]; omega) | grind); exact rτ17
          · refine Fr.aJ g ?_ (by decide); exact fτ17
          · (try simp only [rII, rIJ, rIP, rJJ, rJI, rJP, rPP, rPI, rPJ, g1, g2, g3, g4, g5, g6, g7, g8, Nat.reduceEqDiff, Nat.reduceAdd, false_and, and_false, true_and, and_true, reduceIte, nZ0, nZ1, fun a k => (jτ17 a k).1, fun a k => (jτ17 a k).2]) <;> (first | omega | with_reducible assumption | (unfold rng; omega) | (unfold rng; (repeat' split) <;> omega) | grind)
          · (try simp only [rII, rIJ, rIP, rJJ, rJI, rJP, rPP, rPI, rPJ, g1, g2, g3, g4, g5, g6, g7, g8, Nat.reduceEqDiff, Nat.reduceAdd, false_and, and_false, true_and, and_true, reduceIte, nZ0, nZ1, fun a k => (jτ17 a k).1, fun a k => (jτ17 a k).2]) <;> (first | omega | with_reducible assumption | (unfold rng; omega) | (unfold rng; (repeat' split) <;> omega) | grind)
    refine ⟨_, L17 _ _ _ ?_ ?_ ?_ (Nat.lt_succ_self _)⟩
    · exact rσ
    · exact fσ
    · (try simp only [rII, rIJ, rIP, rJJ, rJI, rJP, rPP, rPI, rPJ, g1, g2, g3, g4, g5, g6, g7, g8, Nat.reduceEqDiff, Nat.reduceAdd, false_and, and_false, true_and, and_true, reduceIte, nZ0, nZ1]) <;> (first | omega | with_reducible assumption | (unfold rng; omega) | (unfold rng; (repeat' split) <;> omega) | grind)
  · rename_i hc7
    skip
    unfold w_X16_newSet_10
    try simp only [forall_eq, rII, rIJ, rIP, rJJ, rJI, rJP, rPP, rPI, rPJ, g1, g2, g3, g4, g5, g6, g7, g8, Nat.reduceEqDiff, Nat.reduceAdd, false_and, and_false, true_and, and_true, reduceIte, nZ0, nZ1]
    refine ⟨by simp, ?_⟩
    refine hX _ _ ?_ ?_ ?_
    · exact rσ
    · exact fσ
    · first | rfl | exact ⟨rfl, by trivial⟩
set_option maxHeartbeats 2000000 in
theorem s_X16_setOf {ra : Nat → Nat} {jx : Nat → Nat → Nat} {rm : Nat} (g : Geo ra jx rm) {σ : Sg} {v1 : Int} {v2 : Int} (rσ : Rg ra jx rm σ) (h1 : 0 ≤ v1 ∧ v1 < 4) {Q : Sg → Int → Prop} {X : Sg → String → Prop} (hQ : ∀ (σ' : Sg) (r : Int), Rg ra jx rm σ' → Fr ra jx rm [26] [27] σ σ' → (0 ≤ r ∧ r < 30000) → Q σ' r) (hX : ∀ (σ' : Sg) (E : String), Rg ra jx rm σ' → Fr ra jx rm [26] [27] σ σ' → (E = "StreamHouseModel$Broken") → X σ' E) : wp_X16_setOf ra jx rm v1 v2 σ Q X := by
  obtain ⟨g1, g2, g3, g4, g5, g6, g7, g8⟩ := id g
  have fσ : Fr ra jx rm [26] [27] σ σ := Fr.rf
  unfold wp_X16_setOf
  unfold w_X16_setOf_0
  try simp only [forall_eq, rII, rIJ, rIP, rJJ, rJI, rJP, rPP, rPI, rPJ, g1, g2, g3, g4, g5, g6, g7, g8, Nat.reduceEqDiff, Nat.reduceAdd, false_and, and_false, true_and, and_true, reduceIte, nZ0, nZ1]
  refine s_X16_newSet g rσ (fun σ7 r8 rσ7 fc p1 => ?_) (fun σx E rx fx px => hX _ _ rx (Fr.tr fσ (Fr.mor (fx) (by decide) (by decide))) px)
  have fσ7 : Fr ra jx rm [26] [27] σ σ7 := Fr.tr fσ (Fr.mor (fc) (by decide) (by decide))
  have jσ7 := fσ7.2.2.1
  try simp only [forall_eq, rII, rIJ, rIP, rJJ, rJI, rJP, rPP, rPI, rPJ, g1, g2, g3, g4, g5, g6, g7, g8, Nat.reduceEqDiff, Nat.reduceAdd, false_and, and_false, true_and, and_true, reduceIte, nZ0, nZ1, fun a k => (jσ7 a k).1, fun a k => (jσ7 a k).2]
  refine ⟨by (first | omega | with_reducible assumption | (unfold rng; omega) | (unfold rng; (repeat' split) <;> omega) | grind), ?_⟩
  refine ⟨by (first | omega | with_reducible assumption | (unfold rng; omega) | (unfold rng; (repeat' split) <;> omega) | grind), ?_⟩
  refine ⟨by (first | omega | with_reducible assumption | (unfold rng; omega) | (unfold rng; (repeat' split) <;> omega) | grind), ?_⟩
  refine hQ _ _ ?_ ?_ ?_
  · refine Rg.aJ g ?_ (by simp only [rlT]; first | with_reducible assumption | omega | exact Int64.toInt_le _ | (rw [Int64.toInt_ofInt_of_le (by omega) (by omega)]; omega) | grind); exact rσ7
  · refine Fr.aJ g ?_ (by decide); exact fσ7
  · (try simp only [rII, rIJ, rIP, rJJ, rJI, rJP, rPP, rPI, rPJ, g1, g2, g3, g4, g5, g6, g7, g8, Nat.reduceEqDiff, Nat.reduceAdd, false_and, and_false, true_and, and_true, reduceIte, nZ0, nZ1, fun a k => (jσ7 a k).1, fun a k => (jσ7 a k).2]) <;> (first | omega | with_reducible assumption | (unfold rng; omega) | (unfold rng; (repeat' split) <;> omega) | grind)
set_option maxHeartbeats 2000000 in
theorem s_X16_joined {ra : Nat → Nat} {jx : Nat → Nat → Nat} {rm : Nat} (g : Geo ra jx rm) {σ : Sg} {v1 : Int} {v2 : Int} (rσ : Rg ra jx rm σ) (h1 : 0 ≤ v1 ∧ v1 < 30000) (h2 : 0 ≤ v2 ∧ v2 < 30000) {Q : Sg → Int → Prop} {X : Sg → String → Prop} (hQ : ∀ (σ' : Sg) (r : Int), Rg ra jx rm σ' → Fr ra jx rm [26] [27] σ σ' → (0 ≤ r ∧ r < 30000) → Q σ' r) (hX : ∀ (σ' : Sg) (E : String), Rg ra jx rm σ' → Fr ra jx rm [26] [27] σ σ' → (E = "StreamHouseModel$Broken") → X σ' E) : wp_X16_joined ra jx rm v1 v2 σ Q X := by
  obtain ⟨g1, g2, g3, g4, g5, g6, g7, g8⟩ := id g
  have fσ : Fr ra jx rm [26] [27] σ σ := Fr.rf
  unfold wp_X16_joined
  unfold w_X16_joined_0
  try simp only [forall_eq, rII, rIJ, rIP, rJJ, rJI, rJP, rPP, rPI, rPJ, g1, g2, g3, g4, g5, g6, g7, g8, Nat.reduceEqDiff, Nat.reduceAdd, false_and, and_false, true_and, and_true, reduceIte, nZ0, nZ1]
  split
  · rename_i hc2
    skip
    unfold w_X16_joined_7
    try simp only [forall_eq, rII, rIJ, rIP, rJJ, rJI, rJP, rPP, rPI, rPJ, g1, g2, g3, g4, g5, g6, g7, g8, Nat.reduceEqDiff, Nat.reduceAdd, false_and, and_false, true_and, and_true, reduceIte, nZ0, nZ1]
    refine s_X16_newSet g rσ (fun σ7 r8 rσ7 fc p1 => ?_) (fun σx E rx fx px => hX _ _ rx (Fr.tr fσ (Fr.mor (fx) (by decide) (by decide))) px)
    have fσ7 : Fr ra jx rm [26] [27] σ σ7 := Fr.tr fσ (Fr.mor (fc) (by decide) (by decide))
    have jσ7 := fσ7.2.2.1
    try simp only [forall_eq, rII, rIJ, rIP, rJJ, rJI, rJP, rPP, rPI, rPJ, g1, g2, g3, g4, g5, g6, g7, g8, Nat.reduceEqDiff, Nat.reduceAdd, false_and, and_false, true_and, and_true, reduceIte, nZ0, nZ1, fun a k => (jσ7 a k).1, fun a k => (jσ7 a k).2]
    have L15 : ∀ (fu15 : Nat) (τ15 : Sg) (v4 : Int), Rg ra jx rm τ15 → Fr ra jx rm [26] [27] σ τ15 → (0 ≤ v4 ∧ v4 ≤ 4) → ((4 - v4).toNat) < fu15 → wl_X16_joined_15 ra jx rm Q X fu15 τ15 v1 v2 r8 v4 := by
      intro fu15
      induction fu15 with
      | zero => intro τ15 _ _ _ _ h9; omega
      | succ fu15 ih15 =>
        intro τ15 v4 rτ15 fτ15 hi15 hm15
        unfold wl_X16_joined_15
        have jτ15 := fτ15.2.2.1
        unfold w_X16_joined_15
        try simp only [forall_eq, rII, rIJ, rIP, rJJ, rJI, rJP, rPP, rPI, rPJ, g1, g2, g3, g4, g5, g6, g7, g8, Nat.reduceEqDiff, Nat.reduceAdd, false_and, and_false, true_and, and_true, reduceIte, nZ0, nZ1, fun a k => (jτ15 a k).1, fun a k => (jτ15 a k).2]
        split
        · rename_i hc18
          skip
          unfold w_X16_joined_61
          try simp only [forall_eq, rII, rIJ, rIP, rJJ, rJI, rJP, rPP, rPI, rPJ, g1, g2, g3, g4, g5, g6, g7, g8, Nat.reduceEqDiff, Nat.reduceAdd, false_and, and_false, true_and, and_true, reduceIte, nZ0, nZ1, fun a k => (jτ15 a k).1, fun a k => (jτ15 a k).2]
          refine hQ _ _ ?_ ?_ ?_
          · exact rτ15
          · exact fτ15
          · (try simp only [rII, rIJ, rIP, rJJ, rJI, rJP, rPP, rPI, rPJ, g1, g2, g3, g4, g5, g6, g7, g8, Nat.reduceEqDiff, Nat.reduceAdd, false_and, and_false, true_and, and_true, reduceIte, nZ0, nZ1, fun a k => (jτ15 a k).1, fun a k => (jτ15 a k).2]) <;> (first | omega | with_reducible assumption | (unfold rng; omega) | (unfold rng; (repeat' split) <;> omega) | grind)
        · rename_i hc18
          skip
          unfold w_X16_joined_21
          try simp only [forall_eq, rII, rIJ, rIP, rJJ, rJI, rJP, rPP, rPI, rPJ, g1, g2, g3, g4, g5, g6, g7, g8, Nat.reduceEqDiff, Nat.reduceAdd, false_and, and_false, true_and, and_true, reduceIte, nZ0, nZ1, fun a k => (jτ15 a k).1, fun a k => (jτ15 a k).2]
          refine ⟨by (first | omega | with_reducible assumption | (unfold rng; omega) | (unfold rng; (repeat' split) <;> omega) | grind), ?_⟩
          refine ⟨by (first | omega | with_reducible assumption | (unfold rng; omega) | (unfold rng; (repeat' split) <;> omega) | grind), ?_⟩
          refine ⟨by (first | omega | with_reducible assumption | (unfold rng; omega) | (unfold rng; (repeat' split) <;> omega) | grind), ?_⟩
          refine ⟨by (first | omega | with_reducible assumption | (unfold rng; omega) | (unfold rng; (repeat' split) <;> omega) | grind), ?_⟩
          refine ⟨by (first | omega | with_reducible assumption | (unfold rng; omega) | (unfold rng; (repeat' split) <;> omega) | grind), ?_⟩
          refine ⟨by (first | omega | with_reducible assumption | (unfold rng; omega) | (unfold rng; (repeat' split) <;> omega) | grind), ?_⟩
          refine ⟨by (first | omega | with_reducible assumption | (unfold rng; omega) | (unfold rng; (repeat' split) <;> omega) | grind), ?_⟩
          refine ⟨by (first | omega | with_reducible assumption | (unfold rng; omega) | (unfold rng; (repeat' split) <;> omega) | grind), ?_⟩
          refine ⟨by (first | omega | with_reducible assumption | (unfold rng; omega) | (unfold rng; (repeat' split) <;> omega) | grind), ?_⟩
          refine ⟨by (first | omega | with_reducible assumption | (unfold rng; omega) | (unfold rng; (repeat' split) <;> omega) | grind), ?_⟩
          refine ih15 _ _ ?_ ?_ ?_ ?_
          · refine Rg.aJ g ?_ (by simp only [rlT]; first | with_reducible assumption | omega | exact Int64.toInt_le _ | (rw [Int64.toInt_ofInt_of_le (by omega) (by omega)]; omega) | grind); exact rτ15
          · refine Fr.aJ g ?_ (by decide); exact fτ15
          · (try simp only [rII, rIJ, rIP, rJJ, rJI, rJP, rPP, rPI, rPJ, g1, g2, g3, g4, g5, g6, g7, g8, Nat.reduceEqDiff, Nat.reduceAdd, false_and, and_false, true_and, and_true, reduceIte, nZ0, nZ1, fun a k => (jτ15 a k).1, fun a k => (jτ15 a k).2]) <;> (first | omega | with_reducible assumption | (unfold rng; omega) | (unfold rng; (repeat' split) <;> omega) | grind)
          · (try simp only [rII, rIJ, rIP, rJJ, rJI, rJP, rPP, rPI, rPJ, g1, g2, g3, g4, g5, g6, g7, g8, Nat.reduceEqDiff, Nat.reduceAdd, false_and, and_false, true_and, and_true, reduceIte, nZ0, nZ1, fun a k => (jτ15 a k).1, fun a k => (jτ15 a k).2]) <;> (first | omega | with_reducible assumption | (unfold rng; omega) | (unfold rng; (repeat' split) <;> omega) | grind)
    refine ⟨_, L15 _ _ _ ?_ ?_ ?_ (Nat.lt_succ_self _)⟩
    · exact rσ7
    · exact fσ7
    · (try simp only [rII, rIJ, rIP, rJJ, rJI, rJP, rPP, rPI, rPJ, g1, g2, g3, g4, g5, g6, g7, g8, Nat.reduceEqDiff, Nat.reduceAdd, false_and, and_false, true_and, and_true, reduceIte, nZ0, nZ1, fun a k => (jσ7 a k).1, fun a k => (jσ7 a k).2]) <;> (first | omega | with_reducible assumption | (unfold rng; omega) | (unfold rng; (repeat' split) <;> omega) | grind)
  · rename_i hc2
    skip
    unfold w_X16_joined_5
    try simp only [forall_eq, rII, rIJ, rIP, rJJ, rJI, rJP, rPP, rPI, rPJ, g1, g2, g3, g4, g5, g6, g7, g8, Nat.reduceEqDiff, Nat.reduceAdd, false_and, and_false, true_and, and_true, reduceIte, nZ0, nZ1]
    refine hQ _ _ ?_ ?_ ?_
    · exact rσ
    · exact fσ
    · (try simp only [rII, rIJ, rIP, rJJ, rJI, rJP, rPP, rPI, rPJ, g1, g2, g3, g4, g5, g6, g7, g8, Nat.reduceEqDiff, Nat.reduceAdd, false_and, and_false, true_and, and_true, reduceIte, nZ0, nZ1]) <;> (first | omega | with_reducible assumption | (unfold rng; omega) | (unfold rng; (repeat' split) <;> omega) | grind)
set_option maxHeartbeats 2000000 in
theorem s_X16_listed {ra : Nat → Nat} {jx : Nat → Nat → Nat} {rm : Nat} (g : Geo ra jx rm) {σ : Sg} {v1 : Int} (rσ : Rg ra jx rm σ) (h1 : 0 ≤ v1 ∧ v1 < 3) {Q : Sg → Int → Prop} {X : Sg → String → Prop} (hQ : ∀ (r : Int), (0 ≤ r ∧ r ≤ 8000) → Q σ r) : wp_X16_listed ra jx rm v1 σ Q X := by
  obtain ⟨g1, g2, g3, g4, g5, g6, g7, g8⟩ := id g
  have fσ : Fr ra jx rm [] [] σ σ := Fr.rf
  unfold wp_X16_listed
  unfold w_X16_listed_0
  try simp only [forall_eq, rII, rIJ, rIP, rJJ, rJI, rJP, rPP, rPI, rPJ, g1, g2, g3, g4, g5, g6, g7, g8, Nat.reduceEqDiff, Nat.reduceAdd, false_and, and_false, true_and, and_true, reduceIte, nZ0, nZ1]
  have L4 : ∀ (fu4 : Nat) (v2 : Int) (v3 : Int), (0 ≤ v3 ∧ v3 ≤ 4 ∧ 0 ≤ v2 ∧ v2 ≤ 2000 * v3) → ((4 - v3).toNat) < fu4 → wl_X16_listed_4 ra jx rm Q X fu4 σ v1 v2 v3 := by
    intro fu4
    induction fu4 with
    | zero => intro  _ _ _ h9; omega
    | succ fu4 ih4 =>
      intro v2 v3 hi4 hm4
      unfold wl_X16_listed_4
      unfold w_X16_listed_4
      try simp only [forall_eq, rII, rIJ, rIP, rJJ, rJI, rJP, rPP, rPI, rPJ, g1, g2, g3, g4, g5, g6, g7, g8, Nat.reduceEqDiff, Nat.reduceAdd, false_and, and_false, true_and, and_true, reduceIte, nZ0, nZ1]
      split
      · rename_i hc6
        skip
        unfold w_X16_listed_28
        try simp only [forall_eq, rII, rIJ, rIP, rJJ, rJI, rJP, rPP, rPI, rPJ, g1, g2, g3, g4, g5, g6, g7, g8, Nat.reduceEqDiff, Nat.reduceAdd, false_and, and_false, true_and, and_true, reduceIte, nZ0, nZ1]
        refine hQ _ ?_
        · (try simp only [rII, rIJ, rIP, rJJ, rJI, rJP, rPP, rPI, rPJ, g1, g2, g3, g4, g5, g6, g7, g8, Nat.reduceEqDiff, Nat.reduceAdd, false_and, and_false, true_and, and_true, reduceIte, nZ0, nZ1]) <;> (first | omega | with_reducible assumption | (unfold rng; omega) | (unfold rng; (repeat' split) <;> omega) | grind)
      · rename_i hc6
        skip
        unfold w_X16_listed_9
        try simp only [forall_eq, rII, rIJ, rIP, rJJ, rJI, rJP, rPP, rPI, rPJ, g1, g2, g3, g4, g5, g6, g7, g8, Nat.reduceEqDiff, Nat.reduceAdd, false_and, and_false, true_and, and_true, reduceIte, nZ0, nZ1]
        refine ⟨by (first | omega | with_reducible assumption | (unfold rng; omega) | (unfold rng; (repeat' split) <;> omega) | grind), ?_⟩
        refine ⟨by (first | omega | with_reducible assumption | (unfold rng; omega) | (unfold rng; (repeat' split) <;> omega) | grind), ?_⟩
        refine ⟨by (first | omega | with_reducible assumption | (unfold rng; omega) | (unfold rng; (repeat' split) <;> omega) | grind), ?_⟩
        have q1 := rσ.1 89 (((3 * v3) + v1).toNat); simp only [rgT] at q1
        refine ⟨by (first | omega | with_reducible assumption | (unfold rng; omega) | (unfold rng; (repeat' split) <;> omega) | grind), ?_⟩
        refine ⟨by (first | omega | with_reducible assumption | (unfold rng; omega) | (unfold rng; (repeat' split) <;> omega) | grind), ?_⟩
        refine ih4 _ _ ?_ ?_
        · (try simp only [rII, rIJ, rIP, rJJ, rJI, rJP, rPP, rPI, rPJ, g1, g2, g3, g4, g5, g6, g7, g8, Nat.reduceEqDiff, Nat.reduceAdd, false_and, and_false, true_and, and_true, reduceIte, nZ0, nZ1]) <;> (first | omega | with_reducible assumption | (unfold rng; omega) | (unfold rng; (repeat' split) <;> omega) | grind)
        · (try simp only [rII, rIJ, rIP, rJJ, rJI, rJP, rPP, rPI, rPJ, g1, g2, g3, g4, g5, g6, g7, g8, Nat.reduceEqDiff, Nat.reduceAdd, false_and, and_false, true_and, and_true, reduceIte, nZ0, nZ1]) <;> (first | omega | with_reducible assumption | (unfold rng; omega) | (unfold rng; (repeat' split) <;> omega) | grind)
  refine ⟨_, L4 _ _ _ ?_ (Nat.lt_succ_self _)⟩
  · (try simp only [rII, rIJ, rIP, rJJ, rJI, rJP, rPP, rPI, rPJ, g1, g2, g3, g4, g5, g6, g7, g8, Nat.reduceEqDiff, Nat.reduceAdd, false_and, and_false, true_and, and_true, reduceIte, nZ0, nZ1]) <;> (first | omega | with_reducible assumption | (unfold rng; omega) | (unfold rng; (repeat' split) <;> omega) | grind)
set_option maxHeartbeats 2000000 in
theorem s_X16_load {ra : Nat → Nat} {jx : Nat → Nat → Nat} {rm : Nat} (g : Geo ra jx rm) {σ : Sg} {v1 : Int} (rσ : Rg ra jx rm σ) (h1 : 0 ≤ v1 ∧ v1 < 4000) {Q : Sg → Unit → Prop} {X : Sg → String → Prop} (hQ : ∀ (σ' : Sg) (r : Unit), Rg ra jx rm σ' → Fr ra jx rm [81] [] σ σ' → (True) → Q σ' r) : wp_X16_load ra jx rm v1 σ Q X := by
  obtain ⟨g1, g2, g3, g4, g5, g6, g7, g8⟩ := id g
  have fσ : Fr ra jx rm [81] [] σ σ := Fr.rf
  unfold wp_X16_load
  unfold w_X16_load_0
  try simp only [forall_eq, rII, rIJ, rIP, rJJ, rJI, rJP, rPP, rPI, rPJ, g1, g2, g3, g4, g5, g6, g7, g8, Nat.reduceEqDiff, Nat.reduceAdd, false_and, and_false, true_and, and_true, reduceIte, nZ0, nZ1]
  have L2 : ∀ (fu2 : Nat) (τ2 : Sg) (v2 : Int), Rg ra jx rm τ2 → Fr ra jx rm [81] [] σ τ2 → (0 ≤ v2 ∧ v2 ≤ 8) → ((8 - v2).toNat) < fu2 → wl_X16_load_2 ra jx rm Q X fu2 τ2 v1 v2 := by
    intro fu2
    induction fu2 with
    | zero => intro τ2 _ _ _ _ h9; omega
    | succ fu2 ih2 =>
      intro τ2 v2 rτ2 fτ2 hi2 hm2
      unfold wl_X16_load_2
      have eτ2_116 := fτ2.1 116 (by decide)
      have jτ2 := fτ2.2.2.1
      unfold w_X16_load_2
      try simp only [forall_eq, rII, rIJ, rIP, rJJ, rJI, rJP, rPP, rPI, rPJ, g1, g2, g3, g4, g5, g6, g7, g8, Nat.reduceEqDiff, Nat.reduceAdd, false_and, and_false, true_and, and_true, reduceIte, nZ0, nZ1, eτ2_116.1, eτ2_116.2, fun a k => (jτ2 a k).1, fun a k => (jτ2 a k).2]
      split
      · rename_i hc5
        skip
        unfold w_X16_load_31
        try simp only [forall_eq, rII, rIJ, rIP, rJJ, rJI, rJP, rPP, rPI, rPJ, g1, g2, g3, g4, g5, g6, g7, g8, Nat.reduceEqDiff, Nat.reduceAdd, false_and, and_false, true_and, and_true, reduceIte, nZ0, nZ1, eτ2_116.1, eτ2_116.2, fun a k => (jτ2 a k).1, fun a k => (jτ2 a k).2]
        refine hQ _ _ ?_ ?_ ?_
        · exact rτ2
        · exact fτ2
        · exact trivial
      · rename_i hc5
        skip
        unfold w_X16_load_8
        try simp only [forall_eq, rII, rIJ, rIP, rJJ, rJI, rJP, rPP, rPI, rPJ, g1, g2, g3, g4, g5, g6, g7, g8, Nat.reduceEqDiff, Nat.reduceAdd, false_and, and_false, true_and, and_true, reduceIte, nZ0, nZ1, eτ2_116.1, eτ2_116.2, fun a k => (jτ2 a k).1, fun a k => (jτ2 a k).2]
        refine ⟨by (first | omega | with_reducible assumption | (unfold rng; omega) | (unfold rng; (repeat' split) <;> omega) | grind), ?_⟩
        refine ⟨by (first | omega | with_reducible assumption | (unfold rng; omega) | (unfold rng; (repeat' split) <;> omega) | grind), ?_⟩
        refine ⟨by (first | omega | with_reducible assumption | (unfold rng; omega) | (unfold rng; (repeat' split) <;> omega) | grind), ?_⟩
        refine ⟨by (first | omega | with_reducible assumption | (unfold rng; omega) | (unfold rng; (repeat' split) <;> omega) | grind), ?_⟩
        refine ⟨by (first | omega | with_reducible assumption | (unfold rng; omega) | (unfold rng; (repeat' split) <;> omega) | grind), ?_⟩
        refine ih2 _ _ ?_ ?_ ?_ ?_
        · refine Rg.aJ g ?_ (by simp only [rlT]; first | with_reducible assumption | omega | exact Int64.toInt_le _ | (rw [Int64.toInt_ofInt_of_le (by omega) (by omega)]; omega) | grind); exact rτ2
        · refine Fr.aJ g ?_ (by decide); exact fτ2
        · (try simp only [rII, rIJ, rIP, rJJ, rJI, rJP, rPP, rPI, rPJ, g1, g2, g3, g4, g5, g6, g7, g8, Nat.reduceEqDiff, Nat.reduceAdd, false_and, and_false, true_and, and_true, reduceIte, nZ0, nZ1, eτ2_116.1, eτ2_116.2, fun a k => (jτ2 a k).1, fun a k => (jτ2 a k).2]) <;> (first | omega | with_reducible assumption | (unfold rng; omega) | (unfold rng; (repeat' split) <;> omega) | grind)
        · (try simp only [rII, rIJ, rIP, rJJ, rJI, rJP, rPP, rPI, rPJ, g1, g2, g3, g4, g5, g6, g7, g8, Nat.reduceEqDiff, Nat.reduceAdd, false_and, and_false, true_and, and_true, reduceIte, nZ0, nZ1, eτ2_116.1, eτ2_116.2, fun a k => (jτ2 a k).1, fun a k => (jτ2 a k).2]) <;> (first | omega | with_reducible assumption | (unfold rng; omega) | (unfold rng; (repeat' split) <;> omega) | grind)
  refine ⟨_, L2 _ _ _ ?_ ?_ ?_ (Nat.lt_succ_self _)⟩
  · exact rσ
  · exact fσ
  · (try simp only [rII, rIJ, rIP, rJJ, rJI, rJP, rPP, rPI, rPJ, g1, g2, g3, g4, g5, g6, g7, g8, Nat.reduceEqDiff, Nat.reduceAdd, false_and, and_false, true_and, and_true, reduceIte, nZ0, nZ1]) <;> (first | omega | with_reducible assumption | (unfold rng; omega) | (unfold rng; (repeat' split) <;> omega) | grind)
set_option maxHeartbeats 2000000 in
theorem s_X16_gathered {ra : Nat → Nat} {jx : Nat → Nat → Nat} {rm : Nat} (g : Geo ra jx rm) {σ : Sg} {v0 : Int} {v1 : Int64} {v3 : Int64} (rσ : Rg ra jx rm σ) {Q : Sg → Int64 → Prop} {X : Sg → String → Prop} (hQ : ∀ (r : Int64), (True) → Q σ r) : wp_X16_gathered ra jx rm v0 v1 v3 σ Q X := by
  obtain ⟨g1, g2, g3, g4, g5, g6, g7, g8⟩ := id g
  have fσ : Fr ra jx rm [] [] σ σ := Fr.rf
  unfold wp_X16_gathered
  unfold w_X16_gathered_0
  try simp only [forall_eq, rII, rIJ, rIP, rJJ, rJI, rJP, rPP, rPI, rPJ, g1, g2, g3, g4, g5, g6, g7, g8, Nat.reduceEqDiff, Nat.reduceAdd, false_and, and_false, true_and, and_true, reduceIte, nZ0, nZ1]
  split
  · rename_i hc2
    skip
    unfold w_X16_gathered_11
    try simp only [forall_eq, rII, rIJ, rIP, rJJ, rJI, rJP, rPP, rPI, rPJ, g1, g2, g3, g4, g5, g6, g7, g8, Nat.reduceEqDiff, Nat.reduceAdd, false_and, and_false, true_and, and_true, reduceIte, nZ0, nZ1]
    split
    · rename_i hc13
      skip
      unfold w_X16_gathered_24
      try simp only [forall_eq, rII, rIJ, rIP, rJJ, rJI, rJP, rPP, rPI, rPJ, g1, g2, g3, g4, g5, g6, g7, g8, Nat.reduceEqDiff, Nat.reduceAdd, false_and, and_false, true_and, and_true, reduceIte, nZ0, nZ1]
      unfold w_X16_gathered_29
      try simp only [forall_eq, rII, rIJ, rIP, rJJ, rJI, rJP, rPP, rPI, rPJ, g1, g2, g3, g4, g5, g6, g7, g8, Nat.reduceEqDiff, Nat.reduceAdd, false_and, and_false, true_and, and_true, reduceIte, nZ0, nZ1]
      refine hQ _ ?_
      · exact trivial
    · rename_i hc13
      skip
      unfold w_X16_gathered_16
      try simp only [forall_eq, rII, rIJ, rIP, rJJ, rJI, rJP, rPP, rPI, rPJ, g1, g2, g3, g4, g5, g6, g7, g8, Nat.reduceEqDiff, Nat.reduceAdd, false_and, and_false, true_and, and_true, reduceIte, nZ0, nZ1]
      unfold w_X16_gathered_29
      try simp only [forall_eq, rII, rIJ, rIP, rJJ, rJI, rJP, rPP, rPI, rPJ, g1, g2, g3, g4, g5, g6, g7, g8, Nat.reduceEqDiff, Nat.reduceAdd, false_and, and_false, true_and, and_true, reduceIte, nZ0, nZ1]
      refine hQ _ ?_
      · exact trivial
  · rename_i hc2
    skip
    unfold w_X16_gathered_5
    try simp only [forall_eq, rII, rIJ, rIP, rJJ, rJI, rJP, rPP, rPI, rPJ, g1, g2, g3, g4, g5, g6, g7, g8, Nat.reduceEqDiff, Nat.reduceAdd, false_and, and_false, true_and, and_true, reduceIte, nZ0, nZ1]
    unfold w_X16_gathered_29
    try simp only [forall_eq, rII, rIJ, rIP, rJJ, rJI, rJP, rPP, rPI, rPJ, g1, g2, g3, g4, g5, g6, g7, g8, Nat.reduceEqDiff, Nat.reduceAdd, false_and, and_false, true_and, and_true, reduceIte, nZ0, nZ1]
    refine hQ _ ?_
    · exact trivial
set_option maxHeartbeats 2000000 in
theorem s_X16_byteAt {ra : Nat → Nat} {jx : Nat → Nat → Nat} {rm : Nat} (g : Geo ra jx rm) {σ : Sg} {v1 : Int} (rσ : Rg ra jx rm σ) (h1 : 0 ≤ v1 ∧ v1 < 1500) {Q : Sg → Int → Prop} {X : Sg → String → Prop} (hQ : ∀ (r : Int), (0 ≤ r ∧ r ≤ 255) → Q σ r) : wp_X16_byteAt ra jx rm v1 σ Q X := by
  obtain ⟨g1, g2, g3, g4, g5, g6, g7, g8⟩ := id g
  have fσ : Fr ra jx rm [] [] σ σ := Fr.rf
  unfold wp_X16_byteAt
  unfold w_X16_byteAt_0
  try simp only [forall_eq, rII, rIJ, rIP, rJJ, rJI, rJP, rPP, rPI, rPJ, g1, g2, g3, g4, g5, g6, g7, g8, Nat.reduceEqDiff, Nat.reduceAdd, false_and, and_false, true_and, and_true, reduceIte, nZ0, nZ1]
  refine ⟨by (first | omega | with_reducible assumption | (unfold rng; omega) | (unfold rng; (repeat' split) <;> omega) | grind), ?_⟩
  have q1 := rσ.1 2 (v1.toNat); simp only [rgT] at q1
  refine hQ _ ?_
  · exact and255 _
set_option maxHeartbeats 2000000 in
theorem s_X16_isKeyword {ra : Nat → Nat} {jx : Nat → Nat → Nat} {rm : Nat} (g : Geo ra jx rm) {σ : Sg} {v1 : Int64} (rσ : Rg ra jx rm σ) {Q : Sg → Int → Prop} {X : Sg → String → Prop} (hQ : ∀ (r : Int), (r = 0 ∨ r = 1) → Q σ r) : wp_X16_isKeyword ra jx rm v1 σ Q X := by
  obtain ⟨g1, g2, g3, g4, g5, g6, g7, g8⟩ := id g
  have fσ : Fr ra jx rm [] [] σ σ := Fr.rf
  unfold wp_X16_isKeyword
  unfold w_X16_isKeyword_0
  try simp only [forall_eq, rII, rIJ, rIP, rJJ, rJI, rJP, rPP, rPI, rPJ, g1, g2, g3, g4, g5, g6, g7, g8, Nat.reduceEqDiff, Nat.reduceAdd, false_and, and_false, true_and, and_true, reduceIte, nZ0, nZ1]
  have L16 : ∀ (fu16 : Nat) (v3 : Int) (v6 : Int), (0 ≤ v6 ∧ v6 ≤ 23 ∧ (v3 = 0 ∨ v3 = 1)) → ((23 - v6).toNat) < fu16 → wl_X16_isKeyword_16 ra jx rm Q X fu16 σ v1 v3 23 v6 := by
    intro fu16
    induction fu16 with
    | zero => intro  _ _ _ h9; omega
    | succ fu16 ih16 =>
      intro v3 v6 hi16 hm16
      unfold wl_X16_isKeyword_16
      unfold w_X16_isKeyword_16
      try simp only [forall_eq, rII, rIJ, rIP, rJJ, rJI, rJP, rPP, rPI, rPJ, g1, g2, g3, g4, g5, g6, g7, g8, Nat.reduceEqDiff, Nat.reduceAdd, false_and, and_false, true_and, and_true, reduceIte, nZ0, nZ1]
      split
      · rename_i hc20
        skip
        unfold w_X16_isKeyword_53
        try simp only [forall_eq, rII, rIJ, rIP, rJJ, rJI, rJP, rPP, rPI, rPJ, g1, g2, g3, g4, g5, g6, g7, g8, Nat.reduceEqDiff, Nat.reduceAdd, false_and, and_false, true_and, and_true, reduceIte, nZ0, nZ1]
        refine ⟨by (first | omega | with_reducible assumption | (unfold rng; omega) | (unfold rng; (repeat' split) <;> omega) | grind), ?_⟩
        refine hQ _ ?_
        · (try simp only [rII, rIJ, rIP, rJJ, rJI, rJP, rPP, rPI, rPJ, g1, g2, g3, g4, g5, g6, g7, g8, Nat.reduceEqDiff, Nat.reduceAdd, false_and, and_false, true_and, and_true, reduceIte, nZ0, nZ1]) <;> (first | omega | with_reducible assumption | (unfold rng; omega) | (unfold rng; (repeat' split) <;> omega) | grind)
      · rename_i hc20
        skip
        unfold w_X16_isKeyword_23
        try simp only [forall_eq, rII, rIJ, rIP, rJJ, rJI, rJP, rPP, rPI, rPJ, g1, g2, g3, g4, g5, g6, g7, g8, Nat.reduceEqDiff, Nat.reduceAdd, false_and, and_false, true_and, and_true, reduceIte, nZ0, nZ1]
        refine ⟨by (first | omega | with_reducible assumption | (unfold rng; omega) | (unfold rng; (repeat' split) <;> omega) | grind), ?_⟩
        split
        · rename_i hc31
          skip
          unfold w_X16_isKeyword_41
          try simp only [forall_eq, rII, rIJ, rIP, rJJ, rJI, rJP, rPP, rPI, rPJ, g1, g2, g3, g4, g5, g6, g7, g8, Nat.reduceEqDiff, Nat.reduceAdd, false_and, and_false, true_and, and_true, reduceIte, nZ0, nZ1]
          unfold w_X16_isKeyword_46
          try simp only [forall_eq, rII, rIJ, rIP, rJJ, rJI, rJP, rPP, rPI, rPJ, g1, g2, g3, g4, g5, g6, g7, g8, Nat.reduceEqDiff, Nat.reduceAdd, false_and, and_false, true_and, and_true, reduceIte, nZ0, nZ1]
          refine ⟨by (first | omega | with_reducible assumption | (unfold rng; omega) | (unfold rng; (repeat' split) <;> omega) | grind), ?_⟩
          refine ih16 _ _ ?_ ?_
          · (try simp only [rII, rIJ, rIP, rJJ, rJI, rJP, rPP, rPI, rPJ, g1, g2, g3, g4, g5, g6, g7, g8, Nat.reduceEqDiff, Nat.reduceAdd, false_and, and_false, true_and, and_true, reduceIte, nZ0, nZ1]) <;> (first | omega | with_reducible assumption | (unfold rng; omega) | (unfold rng; (repeat' split) <;> omega) | grind)
          · (try simp only [rII, rIJ, rIP, rJJ, rJI, rJP, rPP, rPI, rPJ, g1, g2, g3, g4, g5, g6, g7, g8, Nat.reduceEqDiff, Nat.reduceAdd, false_and, and_false, true_and, and_true, reduceIte, nZ0, nZ1]) <;> (first | omega | with_reducible assumption | (unfold rng; omega) | (unfold rng; (repeat' split) <;> omega) | grind)
        · rename_i hc31
          skip
          unfold w_X16_isKeyword_34
          try simp only [forall_eq, rII, rIJ, rIP, rJJ, rJI, rJP, rPP, rPI, rPJ, g1, g2, g3, g4, g5, g6, g7, g8, Nat.reduceEqDiff, Nat.reduceAdd, false_and, and_false, true_and, and_true, reduceIte, nZ0, nZ1]
          split
          · rename_i hc38
            skip
            unfold w_X16_isKeyword_45
            try simp only [forall_eq, rII, rIJ, rIP, rJJ, rJI, rJP, rPP, rPI, rPJ, g1, g2, g3, g4, g5, g6, g7, g8, Nat.reduceEqDiff, Nat.reduceAdd, false_and, and_false, true_and, and_true, reduceIte, nZ0, nZ1]
            unfold w_X16_isKeyword_46
            try simp only [forall_eq, rII, rIJ, rIP, rJJ, rJI, rJP, rPP, rPI, rPJ, g1, g2, g3, g4, g5, g6, g7, g8, Nat.reduceEqDiff, Nat.reduceAdd, false_and, and_false, true_and, and_true, reduceIte, nZ0, nZ1]
            refine ⟨by (first | omega | with_reducible assumption | (unfold rng; omega) | (unfold rng; (repeat' split) <;> omega) | grind), ?_⟩
            refine ih16 _ _ ?_ ?_
            · (try simp only [rII, rIJ, rIP, rJJ, rJI, rJP, rPP, rPI, rPJ, g1, g2, g3, g4, g5, g6, g7, g8, Nat.reduceEqDiff, Nat.reduceAdd, false_and, and_false, true_and, and_true, reduceIte, nZ0, nZ1]) <;> (first | omega | with_reducible assumption | (unfold rng; omega) | (unfold rng; (repeat' split) <;> omega) | grind)
            · (try simp only [rII, rIJ, rIP, rJJ, rJI, rJP, rPP, rPI, rPJ, g1, g2, g3, g4, g5, g6, g7, g8, Nat.reduceEqDiff, Nat.reduceAdd, false_and, and_false, true_and, and_true, reduceIte, nZ0, nZ1]) <;> (first | omega | with_reducible assumption | (unfold rng; omega) | (unfold rng; (repeat' split) <;> omega) | grind)
          · rename_i hc38
            skip
            unfold w_X16_isKeyword_41
            try simp only [forall_eq, rII, rIJ, rIP, rJJ, rJI, rJP, rPP, rPI, rPJ, g1, g2, g3, g4, g5, g6, g7, g8, Nat.reduceEqDiff, Nat.reduceAdd, false_and, and_false, true_and, and_true, reduceIte, nZ0, nZ1]
            unfold w_X16_isKeyword_46
            try simp only [forall_eq, rII, rIJ, rIP, rJJ, rJI, rJP, rPP, rPI, rPJ, g1, g2, g3, g4, g5, g6, g7, g8, Nat.reduceEqDiff, Nat.reduceAdd, false_and, and_false, true_and, and_true, reduceIte, nZ0, nZ1]
            refine ⟨by (first | omega | with_reducible assumption | (unfold rng; omega) | (unfold rng; (repeat' split) <;> omega) | grind), ?_⟩
            refine ih16 _ _ ?_ ?_
            · (try simp only [rII, rIJ, rIP, rJJ, rJI, rJP, rPP, rPI, rPJ, g1, g2, g3, g4, g5, g6, g7, g8, Nat.reduceEqDiff, Nat.reduceAdd, false_and, and_false, true_and, and_true, reduceIte, nZ0, nZ1]) <;> (first | omega | with_reducible assumption | (unfold rng; omega) | (unfold rng; (repeat' split) <;> omega) | grind)
            · (try simp only [rII, rIJ, rIP, rJJ, rJI, rJP, rPP, rPI, rPJ, g1, g2, g3, g4, g5, g6, g7, g8, Nat.reduceEqDiff, Nat.reduceAdd, false_and, and_false, true_and, and_true, reduceIte, nZ0, nZ1]) <;> (first | omega | with_reducible assumption | (unfold rng; omega) | (unfold rng; (repeat' split) <;> omega) | grind)
  refine ⟨_, L16 _ _ _ ?_ (Nat.lt_succ_self _)⟩
  · (try simp only [rII, rIJ, rIP, rJJ, rJI, rJP, rPP, rPI, rPJ, g1, g2, g3, g4, g5, g6, g7, g8, Nat.reduceEqDiff, Nat.reduceAdd, false_and, and_false, true_and, and_true, reduceIte, nZ0, nZ1]) <;> (first | omega | with_reducible assumption | (unfold rng; omega) | (unfold rng; (repeat' split) <;> omega) | grind)
set_option maxHeartbeats 2000000 in
theorem s_X16_hasSource {ra : Nat → Nat} {jx : Nat → Nat → Nat} {rm : Nat} {ja : Nat} (g : Geo ra jx rm) {σ : Sg} {v1 : Int} (rσ : Rg ra jx rm σ) (hj : gP σ rm 17 = none ∨ gP σ rm 17 = some ja) (hja : ja = ra 15 ∨ ja = ra 16) (h1 : 0 ≤ v1 ∧ v1 < 4) {Q : Sg → Int → Prop} {X : Sg → String → Prop} (hQ : ∀ (r : Int), (r = 0 ∨ r = 1) → Q σ r) : wp_X16_hasSource ra jx rm v1 σ Q X := by
  obtain ⟨g1, g2, g3, g4, g5, g6, g7, g8⟩ := id g
  have fσ : Fr ra jx rm [] [] σ σ := Fr.rf
  unfold wp_X16_hasSource
  unfold w_X16_hasSource_0
  try simp only [forall_eq, rII, rIJ, rIP, rJJ, rJI, rJP, rPP, rPI, rPJ, g1, g2, g3, g4, g5, g6, g7, g8, Nat.reduceEqDiff, Nat.reduceAdd, false_and, and_false, true_and, and_true, reduceIte, nZ0, nZ1]
  split
  · rename_i hc4
    skip
    unfold w_X16_hasSource_24
    try simp only [forall_eq, rII, rIJ, rIP, rJJ, rJI, rJP, rPP, rPI, rPJ, g1, g2, g3, g4, g5, g6, g7, g8, Nat.reduceEqDiff, Nat.reduceAdd, false_and, and_false, true_and, and_true, reduceIte, nZ0, nZ1]
    unfold w_X16_hasSource_25
    try simp only [forall_eq, rII, rIJ, rIP, rJJ, rJI, rJP, rPP, rPI, rPJ, g1, g2, g3, g4, g5, g6, g7, g8, Nat.reduceEqDiff, Nat.reduceAdd, false_and, and_false, true_and, and_true, reduceIte, nZ0, nZ1]
    refine ⟨by (first | omega | with_reducible assumption | (unfold rng; omega) | (unfold rng; (repeat' split) <;> omega) | grind), ?_⟩
    refine hQ _ ?_
    · (try simp only [rII, rIJ, rIP, rJJ, rJI, rJP, rPP, rPI, rPJ, g1, g2, g3, g4, g5, g6, g7, g8, Nat.reduceEqDiff, Nat.reduceAdd, false_and, and_false, true_and, and_true, reduceIte, nZ0, nZ1]) <;> (first | omega | with_reducible assumption | (unfold rng; omega) | (unfold rng; (repeat' split) <;> omega) | grind)
  · rename_i hc4
    skip
    unfold w_X16_hasSource_7
    try simp only [forall_eq, rII, rIJ, rIP, rJJ, rJI, rJP, rPP, rPI, rPJ, g1, g2, g3, g4, g5, g6, g7, g8, Nat.reduceEqDiff, Nat.reduceAdd, false_and, and_false, true_and, and_true, reduceIte, nZ0, nZ1]
    refine ⟨ja, by exact hj.resolve_left (by assumption), hja, ?_⟩
    refine ⟨by (first | omega | with_reducible assumption | (unfold rng; omega) | (unfold rng; (repeat' split) <;> omega) | grind), ?_⟩
    have q1 := rσ.2.2.1 ja 18 (v1.toNat); simp only [rgJ] at q1
    split
    · rename_i hc17
      skip
      unfold w_X16_hasSource_24
      try simp only [forall_eq, rII, rIJ, rIP, rJJ, rJI, rJP, rPP, rPI, rPJ, g1, g2, g3, g4, g5, g6, g7, g8, Nat.reduceEqDiff, Nat.reduceAdd, false_and, and_false, true_and, and_true, reduceIte, nZ0, nZ1]
      unfold w_X16_hasSource_25
      try simp only [forall_eq, rII, rIJ, rIP, rJJ, rJI, rJP, rPP, rPI, rPJ, g1, g2, g3, g4, g5, g6, g7, g8, Nat.reduceEqDiff, Nat.reduceAdd, false_and, and_false, true_and, and_true, reduceIte, nZ0, nZ1]
      refine ⟨by (first | omega | with_reducible assumption | (unfold rng; omega) | (unfold rng; (repeat' split) <;> omega) | grind), ?_⟩
      refine hQ _ ?_
      · (try simp only [rII, rIJ, rIP, rJJ, rJI, rJP, rPP, rPI, rPJ, g1, g2, g3, g4, g5, g6, g7, g8, Nat.reduceEqDiff, Nat.reduceAdd, false_and, and_false, true_and, and_true, reduceIte, nZ0, nZ1]) <;> (first | omega | with_reducible assumption | (unfold rng; omega) | (unfold rng; (repeat' split) <;> omega) | grind)
    · rename_i hc17
      skip
      unfold w_X16_hasSource_20
      try simp only [forall_eq, rII, rIJ, rIP, rJJ, rJI, rJP, rPP, rPI, rPJ, g1, g2, g3, g4, g5, g6, g7, g8, Nat.reduceEqDiff, Nat.reduceAdd, false_and, and_false, true_and, and_true, reduceIte, nZ0, nZ1]
      unfold w_X16_hasSource_25
      try simp only [forall_eq, rII, rIJ, rIP, rJJ, rJI, rJP, rPP, rPI, rPJ, g1, g2, g3, g4, g5, g6, g7, g8, Nat.reduceEqDiff, Nat.reduceAdd, false_and, and_false, true_and, and_true, reduceIte, nZ0, nZ1]
      refine ⟨by (first | omega | with_reducible assumption | (unfold rng; omega) | (unfold rng; (repeat' split) <;> omega) | grind), ?_⟩
      refine hQ _ ?_
      · (try simp only [rII, rIJ, rIP, rJJ, rJI, rJP, rPP, rPI, rPJ, g1, g2, g3, g4, g5, g6, g7, g8, Nat.reduceEqDiff, Nat.reduceAdd, false_and, and_false, true_and, and_true, reduceIte, nZ0, nZ1]) <;> (first | omega | with_reducible assumption | (unfold rng; omega) | (unfold rng; (repeat' split) <;> omega) | grind)
set_option maxHeartbeats 2000000 in
theorem s_X16_groupOf {ra : Nat → Nat} {jx : Nat → Nat → Nat} {rm : Nat} (g : Geo ra jx rm) {σ : Sg} {v0 : Int64} (rσ : Rg ra jx rm σ) {Q : Sg → Int → Prop} {X : Sg → String → Prop} (hQ : ∀ (r : Int), (0 ≤ r ∧ r ≤ 15) → Q σ r) : wp_X16_groupOf ra jx rm v0 σ Q X := by
  obtain ⟨g1, g2, g3, g4, g5, g6, g7, g8⟩ := id g
  have fσ : Fr ra jx rm [] [] σ σ := Fr.rf
  unfold wp_X16_groupOf
  unfold w_X16_groupOf_0
  try simp only [forall_eq, rII, rIJ, rIP, rJJ, rJI, rJP, rPP, rPI, rPJ, g1, g2, g3, g4, g5, g6, g7, g8, Nat.reduceEqDiff, Nat.reduceAdd, false_and, and_false, true_and, and_true, reduceIte, nZ0, nZ1]
  refine hQ _ ?_
  · exact grp _
set_option maxHeartbeats 2000000 in
theorem s_X16_thrown {ra : Nat → Nat} {jx : Nat → Nat → Nat} {rm : Nat} (g : Geo ra jx rm) {σ : Sg} (rσ : Rg ra jx rm σ) {Q : Sg → Int → Prop} {X : Sg → String → Prop} (hQ : ∀ (r : Int), (True) → Q σ r) : wp_X16_thrown ra jx rm σ Q X := by
  obtain ⟨g1, g2, g3, g4, g5, g6, g7, g8⟩ := id g
  have fσ : Fr ra jx rm [] [] σ σ := Fr.rf
  unfold wp_X16_thrown
  unfold w_X16_thrown_0
  try simp only [forall_eq, rII, rIJ, rIP, rJJ, rJI, rJP, rPP, rPI, rPJ, g1, g2, g3, g4, g5, g6, g7, g8, Nat.reduceEqDiff, Nat.reduceAdd, false_and, and_false, true_and, and_true, reduceIte, nZ0, nZ1]
  have q1 := rσ.2.1 0; simp only [rgS] at q1
  refine hQ _ ?_
  · exact trivial
set_option maxHeartbeats 2000000 in
theorem s_X16_fault {ra : Nat → Nat} {jx : Nat → Nat → Nat} {rm : Nat} (g : Geo ra jx rm) {σ : Sg} (rσ : Rg ra jx rm σ) {Q : Sg → Int → Prop} {X : Sg → String → Prop} (hQ : ∀ (σ' : Sg) (r : Int), Rg ra jx rm σ' → Fr ra jx rm [] [0] σ σ' → (True) → Q σ' r) : wp_X16_fault ra jx rm σ Q X := by
  obtain ⟨g1, g2, g3, g4, g5, g6, g7, g8⟩ := id g
  have fσ : Fr ra jx rm [] [0] σ σ := Fr.rf
  unfold wp_X16_fault
  unfold w_X16_fault_0
  try simp only [forall_eq, rII, rIJ, rIP, rJJ, rJI, rJP, rPP, rPI, rPJ, g1, g2, g3, g4, g5, g6, g7, g8, Nat.reduceEqDiff, Nat.reduceAdd, false_and, and_false, true_and, and_true, reduceIte, nZ0, nZ1]
  have q1 := rσ.2.1 4; simp only [rgS] at q1
  refine hQ _ _ ?_ ?_ ?_
  · refine Rg.sI g ?_ (by simp only [rgS]; first | with_reducible exact nZ_rng _ | with_reducible exact nB_rng _ | with_reducible exact wr_rng _ | with_reducible exact i32any _ | (first | omega | with_reducible assumption | (unfold rng; omega) | (unfold rng; (repeat' split) <;> omega) | grind)); exact rσ
  · refine Fr.sI g ?_ (by decide); exact fσ
  · exact trivial
set_option maxHeartbeats 2000000 in
theorem s_X16_take {ra : Nat → Nat} {jx : Nat → Nat → Nat} {rm : Nat} (g : Geo ra jx rm) {σ : Sg} (rσ : Rg ra jx rm σ) {Q : Sg → Unit → Prop} {X : Sg → String → Prop} (hQ : ∀ (σ' : Sg) (r : Unit), Rg ra jx rm σ' → Fr ra jx rm [] [8] σ σ' → (True) → Q σ' r) : wp_X16_take ra jx rm σ Q X := by
  obtain ⟨g1, g2, g3, g4, g5, g6, g7, g8⟩ := id g
  have fσ : Fr ra jx rm [] [8] σ σ := Fr.rf
  unfold wp_X16_take
  unfold w_X16_take_0
  try simp only [forall_eq, rII, rIJ, rIP, rJJ, rJI, rJP, rPP, rPI, rPJ, g1, g2, g3, g4, g5, g6, g7, g8, Nat.reduceEqDiff, Nat.reduceAdd, false_and, and_false, true_and, and_true, reduceIte, nZ0, nZ1]
  refine hQ _ _ ?_ ?_ ?_
  · refine Rg.sI g ?_ (by simp only [rgS]; first | with_reducible exact nZ_rng _ | with_reducible exact nB_rng _ | with_reducible exact wr_rng _ | with_reducible exact i32any _ | (first | omega | with_reducible assumption | (unfold rng; omega) | (unfold rng; (repeat' split) <;> omega) | grind)); exact rσ
  · refine Fr.sI g ?_ (by decide); exact fσ
  · exact trivial
set_option maxHeartbeats 2000000 in
theorem s_X16_fail {ra : Nat → Nat} {jx : Nat → Nat → Nat} {rm : Nat} (g : Geo ra jx rm) {σ : Sg} {v1 : Int} (rσ : Rg ra jx rm σ) (b1 : -2147483648 ≤ v1 ∧ v1 ≤ 2147483647) {Q : Sg → Option Nat → Prop} {X : Sg → String → Prop} (hQ : ∀ (σ' : Sg) (r : Option Nat), Rg ra jx rm σ' → Fr ra jx rm [] [4, 5] σ σ' → (r = some (ra 1)) → Q σ' r) : wp_X16_fail ra jx rm v1 σ Q X := by
  obtain ⟨g1, g2, g3, g4, g5, g6, g7, g8⟩ := id g
  have fσ : Fr ra jx rm [] [4, 5] σ σ := Fr.rf
  unfold wp_X16_fail
  unfold w_X16_fail_0
  try simp only [forall_eq, rII, rIJ, rIP, rJJ, rJI, rJP, rPP, rPI, rPJ, g1, g2, g3, g4, g5, g6, g7, g8, Nat.reduceEqDiff, Nat.reduceAdd, false_and, and_false, true_and, and_true, reduceIte, nZ0, nZ1]
  have q1 := rσ.2.1 10; simp only [rgS] at q1
  refine hQ _ _ ?_ ?_ ?_
  · refine Rg.sI g ?_ (by simp only [rgS]; first | with_reducible exact nZ_rng _ | with_reducible exact nB_rng _ | with_reducible exact wr_rng _ | with_reducible exact i32any _ | (first | omega | with_reducible assumption | (unfold rng; omega) | (unfold rng; (repeat' split) <;> omega) | grind)); refine Rg.sI g ?_ (by simp only [rgS]; first | with_reducible exact nZ_rng _ | with_reducible exact nB_rng _ | with_reducible exact wr_rng _ | with_reducible exact i32any _ | (first | omega | with_reducible assumption | (unfold rng; omega) | (unfold rng; (repeat' split) <;> omega) | grind)); exact rσ
  · refine Fr.sI g ?_ (by decide); refine Fr.sI g ?_ (by decide); exact fσ
  · exact rfl
set_option maxHeartbeats 2000000 in
theorem s_X16_misplaced {ra : Nat → Nat} {jx : Nat → Nat → Nat} {rm : Nat} (g : Geo ra jx rm) {σ : Sg} (rσ : Rg ra jx rm σ) {Q : Sg → Option Nat → Prop} {X : Sg → String → Prop} (hQ : ∀ (σ' : Sg) (r : Option Nat), Rg ra jx rm σ' → Fr ra jx rm [] [4, 5] σ σ' → (r = some (ra 1)) → Q σ' r) : wp_X16_misplaced ra jx rm σ Q X := by
  obtain ⟨g1, g2, g3, g4, g5, g6, g7, g8⟩ := id g
  have fσ : Fr ra jx rm [] [4, 5] σ σ := Fr.rf
  unfold wp_X16_misplaced
  unfold w_X16_misplaced_0
  try simp only [forall_eq, rII, rIJ, rIP, rJJ, rJI, rJP, rPP, rPI, rPJ, g1, g2, g3, g4, g5, g6, g7, g8, Nat.reduceEqDiff, Nat.reduceAdd, false_and, and_false, true_and, and_true, reduceIte, nZ0, nZ1]
  have q1 := rσ.2.1 9; simp only [rgS] at q1
  split
  · rename_i hc6
    skip
    unfold w_X16_misplaced_13
    try simp only [forall_eq, rII, rIJ, rIP, rJJ, rJI, rJP, rPP, rPI, rPJ, g1, g2, g3, g4, g5, g6, g7, g8, Nat.reduceEqDiff, Nat.reduceAdd, false_and, and_false, true_and, and_true, reduceIte, nZ0, nZ1]
    unfold w_X16_misplaced_14
    try simp only [forall_eq, rII, rIJ, rIP, rJJ, rJI, rJP, rPP, rPI, rPJ, g1, g2, g3, g4, g5, g6, g7, g8, Nat.reduceEqDiff, Nat.reduceAdd, false_and, and_false, true_and, and_true, reduceIte, nZ0, nZ1]
    refine s_X16_fail g rσ (by (try simp only [rII, rIJ, rIP, rJJ, rJI, rJP, rPP, rPI, rPJ, g1, g2, g3, g4, g5, g6, g7, g8, Nat.reduceEqDiff, Nat.reduceAdd, false_and, and_false, true_and, and_true, reduceIte, nZ0, nZ1]) <;> (first | omega | with_reducible assumption | (unfold rng; omega) | (unfold rng; (repeat' split) <;> omega) | grind)) (fun σ5 r6 rσ5 fc p2 => ?_)
    have fσ5 : Fr ra jx rm [] [4, 5] σ σ5 := Fr.tr fσ (Fr.mor (fc) (by decide) (by decide))
    have sσ5_9 := fσ5.2.1 9 (by decide)
    have jσ5 := fσ5.2.2.1
    try simp only [forall_eq, rII, rIJ, rIP, rJJ, rJI, rJP, rPP, rPI, rPJ, g1, g2, g3, g4, g5, g6, g7, g8, Nat.reduceEqDiff, Nat.reduceAdd, false_and, and_false, true_and, and_true, reduceIte, nZ0, nZ1, sσ5_9.1, sσ5_9.2, fun a k => (jσ5 a k).1, fun a k => (jσ5 a k).2]
    refine hQ _ _ ?_ ?_ ?_
    · exact rσ5
    · exact fσ5
    · assumption
  · rename_i hc6
    skip
    unfold w_X16_misplaced_9
    try simp only [forall_eq, rII, rIJ, rIP, rJJ, rJI, rJP, rPP, rPI, rPJ, g1, g2, g3, g4, g5, g6, g7, g8, Nat.reduceEqDiff, Nat.reduceAdd, false_and, and_false, true_and, and_true, reduceIte, nZ0, nZ1]
    unfold w_X16_misplaced_14
    try simp only [forall_eq, rII, rIJ, rIP, rJJ, rJI, rJP, rPP, rPI, rPJ, g1, g2, g3, g4, g5, g6, g7, g8, Nat.reduceEqDiff, Nat.reduceAdd, false_and, and_false, true_and, and_true, reduceIte, nZ0, nZ1]
    refine s_X16_fail g rσ (by (try simp only [rII, rIJ, rIP, rJJ, rJI, rJP, rPP, rPI, rPJ, g1, g2, g3, g4, g5, g6, g7, g8, Nat.reduceEqDiff, Nat.reduceAdd, false_and, and_false, true_and, and_true, reduceIte, nZ0, nZ1]) <;> (first | omega | with_reducible assumption | (unfold rng; omega) | (unfold rng; (repeat' split) <;> omega) | grind)) (fun σ7 r8 rσ7 fc p3 => ?_)
    have fσ7 : Fr ra jx rm [] [4, 5] σ σ7 := Fr.tr fσ (Fr.mor (fc) (by decide) (by decide))
    have sσ7_9 := fσ7.2.1 9 (by decide)
    have jσ7 := fσ7.2.2.1
    try simp only [forall_eq, rII, rIJ, rIP, rJJ, rJI, rJP, rPP, rPI, rPJ, g1, g2, g3, g4, g5, g6, g7, g8, Nat.reduceEqDiff, Nat.reduceAdd, false_and, and_false, true_and, and_true, reduceIte, nZ0, nZ1, sσ7_9.1, sσ7_9.2, fun a k => (jσ7 a k).1, fun a k => (jσ7 a k).2]
    refine hQ _ _ ?_ ?_ ?_
    · exact rσ7
    · exact fσ7
    · assumption
set_option maxHeartbeats 2000000 in
theorem s_X16_crash {ra : Nat → Nat} {jx : Nat → Nat → Nat} {rm : Nat} (g : Geo ra jx rm) {σ : Sg} {v1 : Int} (rσ : Rg ra jx rm σ) (b1 : -2147483648 ≤ v1 ∧ v1 ≤ 2147483647) {Q : Sg → Unit → Prop} {X : Sg → String → Prop} (hQ : ∀ (σ' : Sg) (r : Unit), Rg ra jx rm σ' → Fr ra jx rm [] [0, 96] σ σ' → (True) → Q σ' r) : wp_X16_crash ra jx rm v1 σ Q X := by
  obtain ⟨g1, g2, g3, g4, g5, g6, g7, g8⟩ := id g
  have fσ : Fr ra jx rm [] [0, 96] σ σ := Fr.rf
  unfold wp_X16_crash
  unfold w_X16_crash_0
  try simp only [forall_eq, rII, rIJ, rIP, rJJ, rJI, rJP, rPP, rPI, rPJ, g1, g2, g3, g4, g5, g6, g7, g8, Nat.reduceEqDiff, Nat.reduceAdd, false_and, and_false, true_and, and_true, reduceIte, nZ0, nZ1]
  have q1 := rσ.2.1 32; simp only [rgS] at q1
  split
  · rename_i hc5
    skip
    unfold w_X16_crash_12
    try simp only [forall_eq, rII, rIJ, rIP, rJJ, rJI, rJP, rPP, rPI, rPJ, g1, g2, g3, g4, g5, g6, g7, g8, Nat.reduceEqDiff, Nat.reduceAdd, false_and, and_false, true_and, and_true, reduceIte, nZ0, nZ1]
    split
    · rename_i hc14
      skip
      unfold w_X16_crash_21
      try simp only [forall_eq, rII, rIJ, rIP, rJJ, rJI, rJP, rPP, rPI, rPJ, g1, g2, g3, g4, g5, g6, g7, g8, Nat.reduceEqDiff, Nat.reduceAdd, false_and, and_false, true_and, and_true, reduceIte, nZ0, nZ1]
      unfold w_X16_crash_22
      try simp only [forall_eq, rII, rIJ, rIP, rJJ, rJI, rJP, rPP, rPI, rPJ, g1, g2, g3, g4, g5, g6, g7, g8, Nat.reduceEqDiff, Nat.reduceAdd, false_and, and_false, true_and, and_true, reduceIte, nZ0, nZ1]
      try rw [if_neg (by decide)]
      unfold w_X16_crash_32
      try simp only [forall_eq, rII, rIJ, rIP, rJJ, rJI, rJP, rPP, rPI, rPJ, g1, g2, g3, g4, g5, g6, g7, g8, Nat.reduceEqDiff, Nat.reduceAdd, false_and, and_false, true_and, and_true, reduceIte, nZ0, nZ1]
      unfold w_X16_crash_37
      try simp only [forall_eq, rII, rIJ, rIP, rJJ, rJI, rJP, rPP, rPI, rPJ, g1, g2, g3, g4, g5, g6, g7, g8, Nat.reduceEqDiff, Nat.reduceAdd, false_and, and_false, true_and, and_true, reduceIte, nZ0, nZ1]
      refine hQ _ _ ?_ ?_ ?_
      · refine Rg.sI g ?_ (by simp only [rgS]; first | with_reducible exact nZ_rng _ | with_reducible exact nB_rng _ | with_reducible exact wr_rng _ | with_reducible exact i32any _ | (first | omega | with_reducible assumption | (unfold rng; omega) | (unfold rng; (repeat' split) <;> omega) | grind)); refine Rg.sI g ?_ (by simp only [rgS]; first | with_reducible exact nZ_rng _ | with_reducible exact nB_rng _ | with_reducible exact wr_rng _ | with_reducible exact i32any _ | (first | omega | with_reducible assumption | (unfold rng; omega) | (unfold rng; (repeat' split) <;> omega) | grind)); exact rσ
      · refine Fr.sI g ?_ (by decide); refine Fr.sI g ?_ (by decide); exact fσ
      · exact trivial
    · rename_i hc14
      skip
      unfold w_X16_crash_17
      try simp only [forall_eq, rII, rIJ, rIP, rJJ, rJI, rJP, rPP, rPI, rPJ, g1, g2, g3, g4, g5, g6, g7, g8, Nat.reduceEqDiff, Nat.reduceAdd, false_and, and_false, true_and, and_true, reduceIte, nZ0, nZ1]
      unfold w_X16_crash_22
      try simp only [forall_eq, rII, rIJ, rIP, rJJ, rJI, rJP, rPP, rPI, rPJ, g1, g2, g3, g4, g5, g6, g7, g8, Nat.reduceEqDiff, Nat.reduceAdd, false_and, and_false, true_and, and_true, reduceIte, nZ0, nZ1]
      try rw [if_pos (by decide)]
      unfold w_X16_crash_37
      try simp only [forall_eq, rII, rIJ, rIP, rJJ, rJI, rJP, rPP, rPI, rPJ, g1, g2, g3, g4, g5, g6, g7, g8, Nat.reduceEqDiff, Nat.reduceAdd, false_and, and_false, true_and, and_true, reduceIte, nZ0, nZ1]
      refine hQ _ _ ?_ ?_ ?_
      · refine Rg.sI g ?_ (by simp only [rgS]; first | with_reducible exact nZ_rng _ | with_reducible exact nB_rng _ | with_reducible exact wr_rng _ | with_reducible exact i32any _ | (first | omega | with_reducible assumption | (unfold rng; omega) | (unfold rng; (repeat' split) <;> omega) | grind)); exact rσ
      · refine Fr.sI g ?_ (by decide); exact fσ
      · exact trivial
  · rename_i hc5
    skip
    unfold w_X16_crash_8
    try simp only [forall_eq, rII, rIJ, rIP, rJJ, rJI, rJP, rPP, rPI, rPJ, g1, g2, g3, g4, g5, g6, g7, g8, Nat.reduceEqDiff, Nat.reduceAdd, false_and, and_false, true_and, and_true, reduceIte, nZ0, nZ1]
    unfold w_X16_crash_22
    try simp only [forall_eq, rII, rIJ, rIP, rJJ, rJI, rJP, rPP, rPI, rPJ, g1, g2, g3, g4, g5, g6, g7, g8, Nat.reduceEqDiff, Nat.reduceAdd, false_and, and_false, true_and, and_true, reduceIte, nZ0, nZ1]
    try rw [if_pos (by decide)]
    unfold w_X16_crash_37
    try simp only [forall_eq, rII, rIJ, rIP, rJJ, rJI, rJP, rPP, rPI, rPJ, g1, g2, g3, g4, g5, g6, g7, g8, Nat.reduceEqDiff, Nat.reduceAdd, false_and, and_false, true_and, and_true, reduceIte, nZ0, nZ1]
    refine hQ _ _ ?_ ?_ ?_
    · refine Rg.sI g ?_ (by simp only [rgS]; first | with_reducible exact nZ_rng _ | with_reducible exact nB_rng _ | with_reducible exact wr_rng _ | with_reducible exact i32any _ | (first | omega | with_reducible assumption | (unfold rng; omega) | (unfold rng; (repeat' split) <;> omega) | grind)); exact rσ
    · refine Fr.sI g ?_ (by decide); exact fσ
    · exact trivial
set_option maxHeartbeats 2000000 in
theorem s_X16_write {ra : Nat → Nat} {jx : Nat → Nat → Nat} {rm : Nat} (g : Geo ra jx rm) {σ : Sg} (rσ : Rg ra jx rm σ) {Q : Sg → Unit → Prop} {X : Sg → String → Prop} (hQ : ∀ (σ' : Sg) (r : Unit), Rg ra jx rm σ' → Fr ra jx rm [] [32, 96] σ σ' → (True) → Q σ' r) (hX : ∀ (σ' : Sg) (E : String), Rg ra jx rm σ' → Fr ra jx rm [] [32, 96] σ σ' → (E = "StreamHouseModel$Broken") → X σ' E) : wp_X16_write ra jx rm σ Q X := by
  obtain ⟨g1, g2, g3, g4, g5, g6, g7, g8⟩ := id g
  have fσ : Fr ra jx rm [] [32, 96] σ σ := Fr.rf
  unfold wp_X16_write
  unfold w_X16_write_0
  try simp only [forall_eq, rII, rIJ, rIP, rJJ, rJI, rJP, rPP, rPI, rPJ, g1, g2, g3, g4, g5, g6, g7, g8, Nat.reduceEqDiff, Nat.reduceAdd, false_and, and_false, true_and, and_true, reduceIte, nZ0, nZ1]
  have q1 := rσ.2.1 96; simp only [rgS] at q1
  split
  · rename_i hc4
    skip
    unfold w_X16_write_17
    try simp only [forall_eq, rII, rIJ, rIP, rJJ, rJI, rJP, rPP, rPI, rPJ, g1, g2, g3, g4, g5, g6, g7, g8, Nat.reduceEqDiff, Nat.reduceAdd, false_and, and_false, true_and, and_true, reduceIte, nZ0, nZ1]
    split
    · rename_i hc26
      skip
      unfold w_X16_write_33
      try simp only [forall_eq, rII, rIJ, rIP, rJJ, rJI, rJP, rPP, rPI, rPJ, g1, g2, g3, g4, g5, g6, g7, g8, Nat.reduceEqDiff, Nat.reduceAdd, false_and, and_false, true_and, and_true, reduceIte, nZ0, nZ1]
      unfold w_X16_write_34
      try simp only [forall_eq, rII, rIJ, rIP, rJJ, rJI, rJP, rPP, rPI, rPJ, g1, g2, g3, g4, g5, g6, g7, g8, Nat.reduceEqDiff, Nat.reduceAdd, false_and, and_false, true_and, and_true, reduceIte, nZ0, nZ1]
      refine ⟨by (first | omega | with_reducible assumption | (unfold rng; omega) | (unfold rng; (repeat' split) <;> omega) | grind), ?_⟩
      refine hQ _ _ ?_ ?_ ?_
      · refine Rg.sI g ?_ (by simp only [rgS]; first | with_reducible exact nZ_rng _ | with_reducible exact nB_rng _ | with_reducible exact wr_rng _ | with_reducible exact i32any _ | (first | omega | with_reducible assumption | (unfold rng; omega) | (unfold rng; (repeat' split) <;> omega) | grind)); exact rσ
      · refine Fr.sI g ?_ (by decide); exact fσ
      · exact trivial
    · rename_i hc26
      skip
      unfold w_X16_write_29
      try simp only [forall_eq, rII, rIJ, rIP, rJJ, rJI, rJP, rPP, rPI, rPJ, g1, g2, g3, g4, g5, g6, g7, g8, Nat.reduceEqDiff, Nat.reduceAdd, false_and, and_false, true_and, and_true, reduceIte, nZ0, nZ1]
      unfold w_X16_write_34
      try simp only [forall_eq, rII, rIJ, rIP, rJJ, rJI, rJP, rPP, rPI, rPJ, g1, g2, g3, g4, g5, g6, g7, g8, Nat.reduceEqDiff, Nat.reduceAdd, false_and, and_false, true_and, and_true, reduceIte, nZ0, nZ1]
      refine ⟨by (first | omega | with_reducible assumption | (unfold rng; omega) | (unfold rng; (repeat' split) <;> omega) | grind), ?_⟩
      refine hQ _ _ ?_ ?_ ?_
      · refine Rg.sI g ?_ (by simp only [rgS]; first | with_reducible exact nZ_rng _ | with_reducible exact nB_rng _ | with_reducible exact wr_rng _ | with_reducible exact i32any _ | (first | omega | with_reducible assumption | (unfold rng; omega) | (unfold rng; (repeat' split) <;> omega) | grind)); exact rσ
      · refine Fr.sI g ?_ (by decide); exact fσ
      · exact trivial
  · rename_i hc4
    skip
    unfold w_X16_write_7
    try simp only [forall_eq, rII, rIJ, rIP, rJJ, rJI, rJP, rPP, rPI, rPJ, g1, g2, g3, g4, g5, g6, g7, g8, Nat.reduceEqDiff, Nat.reduceAdd, false_and, and_false, true_and, and_true, reduceIte, nZ0, nZ1]
    refine ⟨by simp, ?_⟩
    refine hX _ _ ?_ ?_ ?_
    · refine Rg.sI g ?_ (by simp only [rgS]; first | with_reducible exact nZ_rng _ | with_reducible exact nB_rng _ | with_reducible exact wr_rng _ | with_reducible exact i32any _ | (first | omega | with_reducible assumption | (unfold rng; omega) | (unfold rng; (repeat' split) <;> omega) | grind)); exact rσ
    · refine Fr.sI g ?_ (by decide); exact fσ
    · first | rfl | exact ⟨rfl, by trivial⟩
set_option maxHeartbeats 2000000 in
theorem s_X16_isOutput {ra : Nat → Nat} {jx : Nat → Nat → Nat} {rm : Nat} {ja : Nat} (g : Geo ra jx rm) {σ : Sg} {v1 : Int} (rσ : Rg ra jx rm σ) (hj : gP σ rm 17 = none ∨ gP σ rm 17 = some ja) (hja : ja = ra 15 ∨ ja = ra 16) (hn : 0 ≤ gI σ ja 1 ∧ gI σ ja 1 ≤ 4) (b1 : -2147483648 ≤ v1 ∧ v1 ≤ 2147483647) {Q : Sg → Int → Prop} {X : Sg → String → Prop} (hQ : ∀ (r : Int), ((r = 0 ∨ r = 1) ∧ (r = 1 → (0 ≤ v1 ∧ v1 < gI σ ja 1) ∧ gP σ rm 17 = some ja)) → Q σ r) : wp_X16_isOutput ra jx rm v1 σ Q X := by
  obtain ⟨g1, g2, g3, g4, g5, g6, g7, g8⟩ := id g
  have fσ : Fr ra jx rm [] [] σ σ := Fr.rf
  unfold wp_X16_isOutput
  unfold w_X16_isOutput_0
  try simp only [forall_eq, rII, rIJ, rIP, rJJ, rJI, rJP, rPP, rPI, rPJ, g1, g2, g3, g4, g5, g6, g7, g8, Nat.reduceEqDiff, Nat.reduceAdd, false_and, and_false, true_and, and_true, reduceIte, nZ0, nZ1]
  split
  · rename_i hc4
    skip
    unfold w_X16_isOutput_30
    try simp only [forall_eq, rII, rIJ, rIP, rJJ, rJI, rJP, rPP, rPI, rPJ, g1, g2, g3, g4, g5, g6, g7, g8, Nat.reduceEqDiff, Nat.reduceAdd, false_and, and_false, true_and, and_true, reduceIte, nZ0, nZ1]
    unfold w_X16_isOutput_31
    try simp only [forall_eq, rII, rIJ, rIP, rJJ, rJI, rJP, rPP, rPI, rPJ, g1, g2, g3, g4, g5, g6, g7, g8, Nat.reduceEqDiff, Nat.reduceAdd, false_and, and_false, true_and, and_true, reduceIte, nZ0, nZ1]
    refine ⟨by (first | omega | with_reducible assumption | (unfold rng; omega) | (unfold rng; (repeat' split) <;> omega) | grind), ?_⟩
    refine hQ _ ?_
    · (try simp only [rII, rIJ, rIP, rJJ, rJI, rJP, rPP, rPI, rPJ, g1, g2, g3, g4, g5, g6, g7, g8, Nat.reduceEqDiff, Nat.reduceAdd, false_and, and_false, true_and, and_true, reduceIte, nZ0, nZ1]) <;> (first | omega | with_reducible assumption | (unfold rng; omega) | (unfold rng; (repeat' split) <;> omega) | grind)
  · rename_i hc4
    skip
    unfold w_X16_isOutput_7
    try simp only [forall_eq, rII, rIJ, rIP, rJJ, rJI, rJP, rPP, rPI, rPJ, g1, g2, g3, g4, g5, g6, g7, g8, Nat.reduceEqDiff, Nat.reduceAdd, false_and, and_false, true_and, and_true, reduceIte, nZ0, nZ1]
    refine ⟨ja, by exact hj.resolve_left (by assumption), hja, ?_⟩
    refine ⟨by (first | omega | with_reducible assumption | (unfold rng; omega) | (unfold rng; (repeat' split) <;> omega) | grind), ?_⟩
    refine s_X16_within g rσ (fun r9 p2 => ?_)
    obtain ⟨p2, p2b⟩ := p2
    have p2w : r9 = 1 → 0 ≤ v1 ∧ v1 ≤ ((gI σ ja 1) - 1) := fun e => win2 (by (first | omega | with_reducible assumption | (unfold rng; omega) | (unfold rng; (repeat' split) <;> omega) | grind)) (by (first | omega | with_reducible assumption | (unfold rng; omega) | (unfold rng; (repeat' split) <;> omega) | grind)) (by (first | omega | with_reducible assumption | (unfold rng; omega) | (unfold rng; (repeat' split) <;> omega) | grind)) (p2b e)
    try simp only [forall_eq, rII, rIJ, rIP, rJJ, rJI, rJP, rPP, rPI, rPJ, g1, g2, g3, g4, g5, g6, g7, g8, Nat.reduceEqDiff, Nat.reduceAdd, false_and, and_false, true_and, and_true, reduceIte, nZ0, nZ1]
    split
    · rename_i hc23
      skip
      unfold w_X16_isOutput_30
      try simp only [forall_eq, rII, rIJ, rIP, rJJ, rJI, rJP, rPP, rPI, rPJ, g1, g2, g3, g4, g5, g6, g7, g8, Nat.reduceEqDiff, Nat.reduceAdd, false_and, and_false, true_and, and_true, reduceIte, nZ0, nZ1]
      unfold w_X16_isOutput_31
      try simp only [forall_eq, rII, rIJ, rIP, rJJ, rJI, rJP, rPP, rPI, rPJ, g1, g2, g3, g4, g5, g6, g7, g8, Nat.reduceEqDiff, Nat.reduceAdd, false_and, and_false, true_and, and_true, reduceIte, nZ0, nZ1]
      refine ⟨by (first | omega | with_reducible assumption | (unfold rng; omega) | (unfold rng; (repeat' split) <;> omega) | grind), ?_⟩
      refine hQ _ ?_
      · (try simp only [rII, rIJ, rIP, rJJ, rJI, rJP, rPP, rPI, rPJ, g1, g2, g3, g4, g5, g6, g7, g8, Nat.reduceEqDiff, Nat.reduceAdd, false_and, and_false, true_and, and_true, reduceIte, nZ0, nZ1]) <;> (first | omega | with_reducible assumption | (unfold rng; omega) | (unfold rng; (repeat' split) <;> omega) | grind)
    · rename_i hc23
      skip
      unfold w_X16_isOutput_26
      try simp only [forall_eq, rII, rIJ, rIP, rJJ, rJI, rJP, rPP, rPI, rPJ, g1, g2, g3, g4, g5, g6, g7, g8, Nat.reduceEqDiff, Nat.reduceAdd, false_and, and_false, true_and, and_true, reduceIte, nZ0, nZ1]
      unfold w_X16_isOutput_31
      try simp only [forall_eq, rII, rIJ, rIP, rJJ, rJI, rJP, rPP, rPI, rPJ, g1, g2, g3, g4, g5, g6, g7, g8, Nat.reduceEqDiff, Nat.reduceAdd, false_and, and_false, true_and, and_true, reduceIte, nZ0, nZ1]
      refine ⟨by (first | omega | with_reducible assumption | (unfold rng; omega) | (unfold rng; (repeat' split) <;> omega) | grind), ?_⟩
      refine hQ _ ?_
      · (try simp only [rII, rIJ, rIP, rJJ, rJI, rJP, rPP, rPI, rPJ, g1, g2, g3, g4, g5, g6, g7, g8, Nat.reduceEqDiff, Nat.reduceAdd, false_and, and_false, true_and, and_true, reduceIte, nZ0, nZ1]) <;> (first | omega | with_reducible assumption | (unfold rng; omega) | (unfold rng; (repeat' split) <;> omega) | grind)

set_option maxHeartbeats 2000000 in
theorem s_X16_feed {ra : Nat → Nat} {jx : Nat → Nat → Nat} {rm : Nat} (g : Geo ra jx rm) {σ : Sg} {v1 : Int64} {v3 : Int} (rσ : Rg ra jx rm σ) (b1 : -2147483648 ≤ v3 ∧ v3 ≤ 2147483647) {Q : Sg → Int → Prop} {X : Sg → String → Prop} (hQ : ∀ (σ' : Sg) (r : Int), Rg ra jx rm σ' → Fr ra jx rm [2] [0, 3] σ σ' → (True) → Q σ' r) : wp_X16_feed ra jx rm v1 v3 σ Q X := by
  obtain ⟨g1, g2, g3, g4, g5, g6, g7, g8⟩ := id g
  have fσ : Fr ra jx rm [2] [0, 3] σ σ := Fr.rf
  have w1 : (1 ≤ v3 ∧ v3 ≤ 8) → wr (v3 - 1) = v3 - 1 := fun q => i32_toInt ⟨by omega, by omega⟩
  unfold wp_X16_feed
  unfold w_X16_feed_0
  try simp only [forall_eq, rII, rIJ, rIP, rJJ, rJI, rJP, rPP, rPI, rPJ, g1, g2, g3, g4, g5, g6, g7, g8, Nat.reduceEqDiff, Nat.reduceAdd, false_and, and_false, true_and, and_true, reduceIte, nZ0, nZ1]
  refine s_X16_within g rσ (fun r12 p1 => ?_)
  obtain ⟨p1, p1b⟩ := p1
  have p1w : r12 = 1 → 1 ≤ v3 ∧ v3 ≤ 8 := fun e => win (by (first | omega | with_reducible assumption | (unfold rng; omega) | (unfold rng; (repeat' split) <;> omega) | grind)) (p1b e)
  try simp only [forall_eq, rII, rIJ, rIP, rJJ, rJI, rJP, rPP, rPI, rPJ, g1, g2, g3, g4, g5, g6, g7, g8, Nat.reduceEqDiff, Nat.reduceAdd, false_and, and_false, true_and, and_true, reduceIte, nZ0, nZ1]
  split
  · rename_i hc10
    skip
    unfold w_X16_feed_17
    try simp only [forall_eq, rII, rIJ, rIP, rJJ, rJI, rJP, rPP, rPI, rPJ, g1, g2, g3, g4, g5, g6, g7, g8, Nat.reduceEqDiff, Nat.reduceAdd, false_and, and_false, true_and, and_true, reduceIte, nZ0, nZ1]
    have q2 := rσ.2.1 3; simp only [rgS] at q2
    refine ⟨by (first | omega | with_reducible assumption | (unfold rng; omega) | (unfold rng; (repeat' split) <;> omega) | grind), ?_⟩
    split
    · rename_i hc26
      skip
      unfold w_X16_feed_33
      try simp only [forall_eq, rII, rIJ, rIP, rJJ, rJI, rJP, rPP, rPI, rPJ, g1, g2, g3, g4, g5, g6, g7, g8, Nat.reduceEqDiff, Nat.reduceAdd, false_and, and_false, true_and, and_true, reduceIte, nZ0, nZ1]
      unfold w_X16_feed_34
      try simp only [forall_eq, rII, rIJ, rIP, rJJ, rJI, rJP, rPP, rPI, rPJ, g1, g2, g3, g4, g5, g6, g7, g8, Nat.reduceEqDiff, Nat.reduceAdd, false_and, and_false, true_and, and_true, reduceIte, nZ0, nZ1]
      have L42 : ∀ (fu42 : Nat) (τ42 : Sg) (v4 : Int), Rg ra jx rm τ42 → Fr ra jx rm [2] [0, 3] σ τ42 → (gI τ42 rm 0 = 0 → -1 ≤ v4 ∧ v4 < 8 ∧ 0 ≤ gI τ42 rm 3 ∧ gI τ42 rm 3 + v4 < 1500) → ((v4 + 1).toNat) < fu42 → wl_X16_feed_42 ra jx rm Q X fu42 τ42 v1 v4 := by
        intro fu42
        induction fu42 with
        | zero => intro τ42 _ _ _ _ h9; omega
        | succ fu42 ih42 =>
          intro τ42 v4 rτ42 fτ42 hi42 hm42
          unfold wl_X16_feed_42
          have jτ42 := fτ42.2.2.1
          unfold w_X16_feed_42
          try simp only [forall_eq, rII, rIJ, rIP, rJJ, rJI, rJP, rPP, rPI, rPJ, g1, g2, g3, g4, g5, g6, g7, g8, Nat.reduceEqDiff, Nat.reduceAdd, false_and, and_false, true_and, and_true, reduceIte, nZ0, nZ1, fun a k => (jτ42 a k).1, fun a k => (jτ42 a k).2]
          split
          · rename_i hc44
            skip
            unfold w_X16_feed_85
            try simp only [forall_eq, rII, rIJ, rIP, rJJ, rJI, rJP, rPP, rPI, rPJ, g1, g2, g3, g4, g5, g6, g7, g8, Nat.reduceEqDiff, Nat.reduceAdd, false_and, and_false, true_and, and_true, reduceIte, nZ0, nZ1, fun a k => (jτ42 a k).1, fun a k => (jτ42 a k).2]
            have q3 := rτ42.2.1 0; simp only [rgS] at q3
            split
            · rename_i hc89
              skip
              unfold w_X16_feed_96
              try simp only [forall_eq, rII, rIJ, rIP, rJJ, rJI, rJP, rPP, rPI, rPJ, g1, g2, g3, g4, g5, g6, g7, g8, Nat.reduceEqDiff, Nat.reduceAdd, false_and, and_false, true_and, and_true, reduceIte, nZ0, nZ1, fun a k => (jτ42 a k).1, fun a k => (jτ42 a k).2]
              unfold w_X16_feed_100
              try simp only [forall_eq, rII, rIJ, rIP, rJJ, rJI, rJP, rPP, rPI, rPJ, g1, g2, g3, g4, g5, g6, g7, g8, Nat.reduceEqDiff, Nat.reduceAdd, false_and, and_false, true_and, and_true, reduceIte, nZ0, nZ1, fun a k => (jτ42 a k).1, fun a k => (jτ42 a k).2]
              have q4 := rτ42.2.1 3; simp only [rgS] at q4
              refine hQ _ _ ?_ ?_ ?_
              · exact rτ42
              · exact fτ42
              · exact trivial
            · rename_i hc89
              skip
              unfold w_X16_feed_92
              try simp only [forall_eq, rII, rIJ, rIP, rJJ, rJI, rJP, rPP, rPI, rPJ, g1, g2, g3, g4, g5, g6, g7, g8, Nat.reduceEqDiff, Nat.reduceAdd, false_and, and_false, true_and, and_true, reduceIte, nZ0, nZ1, fun a k => (jτ42 a k).1, fun a k => (jτ42 a k).2]
              unfold w_X16_feed_100
              try simp only [forall_eq, rII, rIJ, rIP, rJJ, rJI, rJP, rPP, rPI, rPJ, g1, g2, g3, g4, g5, g6, g7, g8, Nat.reduceEqDiff, Nat.reduceAdd, false_and, and_false, true_and, and_true, reduceIte, nZ0, nZ1, fun a k => (jτ42 a k).1, fun a k => (jτ42 a k).2]
              refine hQ _ _ ?_ ?_ ?_
              · exact rτ42
              · exact fτ42
              · exact trivial
          · rename_i hc44
            skip
            unfold w_X16_feed_47
            try simp only [forall_eq, rII, rIJ, rIP, rJJ, rJI, rJP, rPP, rPI, rPJ, g1, g2, g3, g4, g5, g6, g7, g8, Nat.reduceEqDiff, Nat.reduceAdd, false_and, and_false, true_and, and_true, reduceIte, nZ0, nZ1, fun a k => (jτ42 a k).1, fun a k => (jτ42 a k).2]
            have q5 := rτ42.2.1 0; simp only [rgS] at q5
            split
            · rename_i hc51
              skip
              unfold w_X16_feed_85
              try simp only [forall_eq, rII, rIJ, rIP, rJJ, rJI, rJP, rPP, rPI, rPJ, g1, g2, g3, g4, g5, g6, g7, g8, Nat.reduceEqDiff, Nat.reduceAdd, false_and, and_false, true_and, and_true, reduceIte, nZ0, nZ1, fun a k => (jτ42 a k).1, fun a k => (jτ42 a k).2]
              split
              · rename_i hc89
                skip
                unfold w_X16_feed_96
                try simp only [forall_eq, rII, rIJ, rIP, rJJ, rJI, rJP, rPP, rPI, rPJ, g1, g2, g3, g4, g5, g6, g7, g8, Nat.reduceEqDiff, Nat.reduceAdd, false_and, and_false, true_and, and_true, reduceIte, nZ0, nZ1, fun a k => (jτ42 a k).1, fun a k => (jτ42 a k).2]
                unfold w_X16_feed_100
                try simp only [forall_eq, rII, rIJ, rIP, rJJ, rJI, rJP, rPP, rPI, rPJ, g1, g2, g3, g4, g5, g6, g7, g8, Nat.reduceEqDiff, Nat.reduceAdd, false_and, and_false, true_and, and_true, reduceIte, nZ0, nZ1, fun a k => (jτ42 a k).1, fun a k => (jτ42 a k).2]
                have q6 := rτ42.2.1 3; simp only [rgS] at q6
                refine hQ _ _ ?_ ?_ ?_
                · exact rτ42
                · exact fτ42
                · exact trivial
              · rename_i hc89
                skip
                unfold w_X16_feed_92
                try simp only [forall_eq, rII, rIJ, rIP, rJJ, rJI, rJP, rPP, rPI, rPJ, g1, g2, g3, g4, g5, g6, g7, g8, Nat.reduceEqDiff, Nat.reduceAdd, false_and, and_false, true_and, and_true, reduceIte, nZ0, nZ1, fun a k => (jτ42 a k).1, fun a k => (jτ42 a k).2]
                unfold w_X16_feed_100
                try simp only [forall_eq, rII, rIJ, rIP, rJJ, rJI, rJP, rPP, rPI, rPJ, g1, g2, g3, g4, g5, g6, g7, g8, Nat.reduceEqDiff, Nat.reduceAdd, false_and, and_false, true_and, and_true, reduceIte, nZ0, nZ1, fun a k => (jτ42 a k).1, fun a k => (jτ42 a k).2]
                refine hQ _ _ ?_ ?_ ?_
                · exact rτ42
                · exact fτ42
                · exact trivial
            · rename_i hc51
              skip
              unfold w_X16_feed_54
              try simp only [forall_eq, rII, rIJ, rIP, rJJ, rJI, rJP, rPP, rPI, rPJ, g1, g2, g3, g4, g5, g6, g7, g8, Nat.reduceEqDiff, Nat.reduceAdd, false_and, and_false, true_and, and_true, reduceIte, nZ0, nZ1, fun a k => (jτ42 a k).1, fun a k => (jτ42 a k).2]
              have q7 := rτ42.2.1 3; simp only [rgS] at q7
              refine ⟨by (first | omega | with_reducible assumption | (unfold rng; omega) | (unfold rng; (repeat' split) <;> omega) | grind), ?_⟩
              refine ⟨by (first | omega | with_reducible assumption | (unfold rng; omega) | (unfold rng; (repeat' split) <;> omega) | grind), ?_⟩
              refine ⟨by (first | omega | with_reducible assumption | (unfold rng; omega) | (unfold rng; (repeat' split) <;> omega) | grind), ?_⟩
              refine ⟨by (first | omega | with_reducible assumption | (unfold rng; omega) | (unfold rng; (repeat' split) <;> omega) | grind), ?_⟩
              refine ih42 _ _ ?_ ?_ ?_ ?_
              · refine Rg.aI g ?_ (by simp only [rgT]; first | with_reducible exact nZ_rng _ | with_reducible exact nB_rng _ | with_reducible exact wr_rng _ | with_reducible exact i32any _ | (first | omega | with_reducible assumption | (unfold rng; omega) | (unfold rng; (repeat' split) <;> omega) | grind)); refine Rg.sI g ?_ (by simp only [rgS]; first | with_reducible exact nZ_rng _ | with_reducible exact nB_rng _ | with_reducible exact wr_rng _ | with_reducible exact i32any _ | (first | omega | with_reducible assumption | (unfold rng; omega) | (unfold rng; (repeat' split) <;> omega) | grind)); exact rτ42
              · refine Fr.aI g ?_ (by decide); refine Fr.sI g ?_ (by decide); exact fτ42
              · (try simp only [rII, rIJ, rIP, rJJ, rJI, rJP, rPP, rPI, rPJ, g1, g2, g3, g4, g5, g6, g7, g8, Nat.reduceEqDiff, Nat.reduceAdd, false_and, and_false, true_and, and_true, reduceIte, nZ0, nZ1, fun a k => (jτ42 a k).1, fun a k => (jτ42 a k).2]) <;> (first | omega | with_reducible assumption | (unfold rng; omega) | (unfold rng; (repeat' split) <;> omega) | grind)
              · (try simp only [rII, rIJ, rIP, rJJ, rJI, rJP, rPP, rPI, rPJ, g1, g2, g3, g4, g5, g6, g7, g8, Nat.reduceEqDiff, Nat.reduceAdd, false_and, and_false, true_and, and_true, reduceIte, nZ0, nZ1, fun a k => (jτ42 a k).1, fun a k => (jτ42 a k).2]) <;> (first | omega | with_reducible assumption | (unfold rng; omega) | (unfold rng; (repeat' split) <;> omega) | grind)
      refine ⟨_, L42 _ _ _ ?_ ?_ ?_ (Nat.lt_succ_self _)⟩
      · refine Rg.sI g ?_ (by simp only [rgS]; first | with_reducible exact nZ_rng _ | with_reducible exact nB_rng _ | with_reducible exact wr_rng _ | with_reducible exact i32any _ | (first | omega | with_reducible assumption | (unfold rng; omega) | (unfold rng; (repeat' split) <;> omega) | grind)); exact rσ
      · refine Fr.sI g ?_ (by decide); exact fσ
      · (try simp only [rII, rIJ, rIP, rJJ, rJI, rJP, rPP, rPI, rPJ, g1, g2, g3, g4, g5, g6, g7, g8, Nat.reduceEqDiff, Nat.reduceAdd, false_and, and_false, true_and, and_true, reduceIte, nZ0, nZ1]) <;> (first | omega | with_reducible assumption | (unfold rng; omega) | (unfold rng; (repeat' split) <;> omega) | grind)
    · rename_i hc26
      skip
      unfold w_X16_feed_29
      try simp only [forall_eq, rII, rIJ, rIP, rJJ, rJI, rJP, rPP, rPI, rPJ, g1, g2, g3, g4, g5, g6, g7, g8, Nat.reduceEqDiff, Nat.reduceAdd, false_and, and_false, true_and, and_true, reduceIte, nZ0, nZ1]
      unfold w_X16_feed_34
      try simp only [forall_eq, rII, rIJ, rIP, rJJ, rJI, rJP, rPP, rPI, rPJ, g1, g2, g3, g4, g5, g6, g7, g8, Nat.reduceEqDiff, Nat.reduceAdd, false_and, and_false, true_and, and_true, reduceIte, nZ0, nZ1]
      have L42 : ∀ (fu42 : Nat) (τ42 : Sg) (v4 : Int), Rg ra jx rm τ42 → Fr ra jx rm [2] [0, 3] σ τ42 → (gI τ42 rm 0 = 0 → -1 ≤ v4 ∧ v4 < 8 ∧ 0 ≤ gI τ42 rm 3 ∧ gI τ42 rm 3 + v4 < 1500) → ((v4 + 1).toNat) < fu42 → wl_X16_feed_42 ra jx rm Q X fu42 τ42 v1 v4 := by
        intro fu42
        induction fu42 with
        | zero => intro τ42 _ _ _ _ h9; omega
        | succ fu42 ih42 =>
          intro τ42 v4 rτ42 fτ42 hi42 hm42
          unfold wl_X16_feed_42
          have jτ42 := fτ42.2.2.1
          unfold w_X16_feed_42
          try simp only [forall_eq, rII, rIJ, rIP, rJJ, rJI, rJP, rPP, rPI, rPJ, g1, g2, g3, g4, g5, g6, g7, g8, Nat.reduceEqDiff, Nat.reduceAdd, false_and, and_false, true_and, and_true, reduceIte, nZ0, nZ1, fun a k => (jτ42 a k).1, fun a k => (jτ42 a k).2]
          split
          · rename_i hc44
            skip
            unfold w_X16_feed_85
            try simp only [forall_eq, rII, rIJ, rIP, rJJ, rJI, rJP, rPP, rPI, rPJ, g1, g2, g3, g4, g5, g6, g7, g8, Nat.reduceEqDiff, Nat.reduceAdd, false_and, and_false, true_and, and_true, reduceIte, nZ0, nZ1, fun a k => (jτ42 a k).1, fun a k => (jτ42 a k).2]
            have q8 := rτ42.2.1 0; simp only [rgS] at q8
            split
            · rename_i hc89
              skip
              unfold w_X16_feed_96
              try simp only [forall_eq, rII, rIJ, rIP, rJJ, rJI, rJP, rPP, rPI, rPJ, g1, g2, g3, g4, g5, g6, g7, g8, Nat.reduceEqDiff, Nat.reduceAdd, false_and, and_false, true_and, and_true, reduceIte, nZ0, nZ1, fun a k => (jτ42 a k).1, fun a k => (jτ42 a k).2]
              unfold w_X16_feed_100
              try simp only [forall_eq, rII, rIJ, rIP, rJJ, rJI, rJP, rPP, rPI, rPJ, g1, g2, g3, g4, g5, g6, g7, g8, Nat.reduceEqDiff, Nat.reduceAdd, false_and, and_false, true_and, and_true, reduceIte, nZ0, nZ1, fun a k => (jτ42 a k).1, fun a k => (jτ42 a k).2]
              have q9 := rτ42.2.1 3; simp only [rgS] at q9
              refine hQ _ _ ?_ ?_ ?_
              · exact rτ42
              · exact fτ42
              · exact trivial
            · rename_i hc89
              skip
              unfold w_X16_feed_92
              try simp only [forall_eq, rII, rIJ, rIP, rJJ, rJI, rJP, rPP, rPI, rPJ, g1, g2, g3, g4, g5, g6, g7, g8, Nat.reduceEqDiff, Nat.reduceAdd, false_and, and_false, true_and, and_true, reduceIte, nZ0, nZ1, fun a k => (jτ42 a k).1, fun a k => (jτ42 a k).2]
              unfold w_X16_feed_100
              try simp only [forall_eq, rII, rIJ, rIP, rJJ, rJI, rJP, rPP, rPI, rPJ, g1, g2, g3, g4, g5, g6, g7, g8, Nat.reduceEqDiff, Nat.reduceAdd, false_and, and_false, true_and, and_true, reduceIte, nZ0, nZ1, fun a k => (jτ42 a k).1, fun a k => (jτ42 a k).2]
              refine hQ _ _ ?_ ?_ ?_
              · exact rτ42
              · exact fτ42
              · exact trivial
          · rename_i hc44
            skip
            unfold w_X16_feed_47
            try simp only [forall_eq, rII, rIJ, rIP, rJJ, rJI, rJP, rPP, rPI, rPJ, g1, g2, g3, g4, g5, g6, g7, g8, Nat.reduceEqDiff, Nat.reduceAdd, false_and, and_false, true_and, and_true, reduceIte, nZ0, nZ1, fun a k => (jτ42 a k).1, fun a k => (jτ42 a k).2]
            have q10 := rτ42.2.1 0; simp only [rgS] at q10
            split
            · rename_i hc51
              skip
              unfold w_X16_feed_85
              try simp only [forall_eq, rII, rIJ, rIP, rJJ, rJI, rJP, rPP, rPI, rPJ, g1, g2, g3, g4, g5, g6, g7, g8, Nat.reduceEqDiff, Nat.reduceAdd, false_and, and_false, true_and, and_true, reduceIte, nZ0, nZ1, fun a k => (jτ42 a k).1, fun a k => (jτ42 a k).2]
              split
              · rename_i hc89
                skip
                unfold w_X16_feed_96
                try simp only [forall_eq, rII, rIJ, rIP, rJJ, rJI, rJP, rPP, rPI, rPJ, g1, g2, g3, g4, g5, g6, g7, g8, Nat.reduceEqDiff, Nat.reduceAdd, false_and, and_false, true_and, and_true, reduceIte, nZ0, nZ1, fun a k => (jτ42 a k).1, fun a k => (jτ42 a k).2]
                unfold w_X16_feed_100
                try simp only [forall_eq, rII, rIJ, rIP, rJJ, rJI, rJP, rPP, rPI, rPJ, g1, g2, g3, g4, g5, g6, g7, g8, Nat.reduceEqDiff, Nat.reduceAdd, false_and, and_false, true_and, and_true, reduceIte, nZ0, nZ1, fun a k => (jτ42 a k).1, fun a k => (jτ42 a k).2]
                have q11 := rτ42.2.1 3; simp only [rgS] at q11
                refine hQ _ _ ?_ ?_ ?_
                · exact rτ42
                · exact fτ42
                · exact trivial
              · rename_i hc89
                skip
                unfold w_X16_feed_92
                try simp only [forall_eq, rII, rIJ, rIP, rJJ, rJI, rJP, rPP, rPI, rPJ, g1, g2, g3, g4, g5, g6, g7, g8, Nat.reduceEqDiff, Nat.reduceAdd, false_and, and_false, true_and, and_true, reduceIte, nZ0, nZ1, fun a k => (jτ42 a k).1, fun a k => (jτ42 a k).2]
                unfold w_X16_feed_100
                try simp only [forall_eq, rII, rIJ, rIP, rJJ, rJI, rJP, rPP, rPI, rPJ, g1, g2, g3, g4, g5, g6, g7, g8, Nat.reduceEqDiff, Nat.reduceAdd, false_and, and_false, true_and, and_true, reduceIte, nZ0, nZ1, fun a k => (jτ42 a k).1, fun a k => (jτ42 a k).2]
                refine hQ _ _ ?_ ?_ ?_
                · exact rτ42
                · exact fτ42
                · exact trivial
            · rename_i hc51
              skip
              unfold w_X16_feed_54
              try simp only [forall_eq, rII, rIJ, rIP, rJJ, rJI, rJP, rPP, rPI, rPJ, g1, g2, g3, g4, g5, g6, g7, g8, Nat.reduceEqDiff, Nat.reduceAdd, false_and, and_false, true_and, and_true, reduceIte, nZ0, nZ1, fun a k => (jτ42 a k).1, fun a k => (jτ42 a k).2]
              have q12 := rτ42.2.1 3; simp only [rgS] at q12
              refine ⟨by (first | omega | with_reducible assumption | (unfold rng; omega) | (unfold rng; (repeat' split) <;> omega) | grind), ?_⟩
              refine ⟨by (first | omega | with_reducible assumption | (unfold rng; omega) | (unfold rng; (repeat' split) <;> omega) | grind), ?_⟩
              refine ⟨by (first | omega | with_reducible assumption | (unfold rng; omega) | (unfold rng; (repeat' split) <;> omega) | grind), ?_⟩
              refine ⟨by (first | omega | with_reducible assumption | (unfold rng; omega) | (unfold rng; (repeat' split) <;> omega) | grind), ?_⟩
              refine ih42 _ _ ?_ ?_ ?_ ?_
              · refine Rg.aI g ?_ (by simp only [rgT]; first | with_reducible exact nZ_rng _ | with_reducible exact nB_rng _ | with_reducible exact wr_rng _ | with_reducible exact i32any _ | (first | omega | with_reducible assumption | (unfold rng; omega) | (unfold rng; (repeat' split) <;> omega) | grind)); refine Rg.sI g ?_ (by simp only [rgS]; first | with_reducible exact nZ_rng _ | with_reducible exact nB_rng _ | with_reducible exact wr_rng _ | with_reducible exact i32any _ | (first | omega | with_reducible assumption | (unfold rng; omega) | (unfold rng; (repeat' split) <;> omega) | grind)); exact rτ42
              · refine Fr.aI g ?_ (by decide); refine Fr.sI g ?_ (by decide); exact fτ42
              · (try simp only [rII, rIJ, rIP, rJJ, rJI, rJP, rPP, rPI, rPJ, g1, g2, g3, g4, g5, g6, g7, g8, Nat.reduceEqDiff, Nat.reduceAdd, false_and, and_false, true_and, and_true, reduceIte, nZ0, nZ1, fun a k => (jτ42 a k).1, fun a k => (jτ42 a k).2]) <;> (first | omega | with_reducible assumption | (unfold rng; omega) | (unfold rng; (repeat' split) <;> omega) | grind)
              · (try simp only [rII, rIJ, rIP, rJJ, rJI, rJP, rPP, rPI, rPJ, g1, g2, g3, g4, g5, g6, g7, g8, Nat.reduceEqDiff, Nat.reduceAdd, false_and, and_false, true_and, and_true, reduceIte, nZ0, nZ1, fun a k => (jτ42 a k).1, fun a k => (jτ42 a k).2]) <;> (first | omega | with_reducible assumption | (unfold rng; omega) | (unfold rng; (repeat' split) <;> omega) | grind)
      refine ⟨_, L42 _ _ _ ?_ ?_ ?_ (Nat.lt_succ_self _)⟩
      · refine Rg.sI g ?_ (by simp only [rgS]; first | with_reducible exact nZ_rng _ | with_reducible exact nB_rng _ | with_reducible exact wr_rng _ | with_reducible exact i32any _ | (first | omega | with_reducible assumption | (unfold rng; omega) | (unfold rng; (repeat' split) <;> omega) | grind)); exact rσ
      · refine Fr.sI g ?_ (by decide); exact fσ
      · (try simp only [rII, rIJ, rIP, rJJ, rJI, rJP, rPP, rPI, rPJ, g1, g2, g3, g4, g5, g6, g7, g8, Nat.reduceEqDiff, Nat.reduceAdd, false_and, and_false, true_and, and_true, reduceIte, nZ0, nZ1]) <;> (first | omega | with_reducible assumption | (unfold rng; omega) | (unfold rng; (repeat' split) <;> omega) | grind)
  · rename_i hc10
    skip
    unfold w_X16_feed_13
    try simp only [forall_eq, rII, rIJ, rIP, rJJ, rJI, rJP, rPP, rPI, rPJ, g1, g2, g3, g4, g5, g6, g7, g8, Nat.reduceEqDiff, Nat.reduceAdd, false_and, and_false, true_and, and_true, reduceIte, nZ0, nZ1]
    unfold w_X16_feed_34
    try simp only [forall_eq, rII, rIJ, rIP, rJJ, rJI, rJP, rPP, rPI, rPJ, g1, g2, g3, g4, g5, g6, g7, g8, Nat.reduceEqDiff, Nat.reduceAdd, false_and, and_false, true_and, and_true, reduceIte, nZ0, nZ1]
    have L42 : ∀ (fu42 : Nat) (τ42 : Sg) (v4 : Int), Rg ra jx rm τ42 → Fr ra jx rm [2] [0, 3] σ τ42 → (gI τ42 rm 0 = 0 → -1 ≤ v4 ∧ v4 < 8 ∧ 0 ≤ gI τ42 rm 3 ∧ gI τ42 rm 3 + v4 < 1500) → ((v4 + 1).toNat) < fu42 → wl_X16_feed_42 ra jx rm Q X fu42 τ42 v1 v4 := by
      intro fu42
      induction fu42 with
      | zero => intro τ42 _ _ _ _ h9; omega
      | succ fu42 ih42 =>
        intro τ42 v4 rτ42 fτ42 hi42 hm42
        unfold wl_X16_feed_42
        have jτ42 := fτ42.2.2.1
        unfold w_X16_feed_42
        try simp only [forall_eq, rII, rIJ, rIP, rJJ, rJI, rJP, rPP, rPI, rPJ, g1, g2, g3, g4, g5, g6, g7, g8, Nat.reduceEqDiff, Nat.reduceAdd, false_and, and_false, true_and, and_true, reduceIte, nZ0, nZ1, fun a k => (jτ42 a k).1, fun a k => (jτ42 a k).2]
        split
        · rename_i hc44
          skip
          unfold w_X16_feed_85
          try simp only [forall_eq, rII, rIJ, rIP, rJJ, rJI, rJP, rPP, rPI, rPJ, g1, g2, g3, g4, g5, g6, g7, g8, Nat.reduceEqDiff, Nat.reduceAdd, false_and, and_false, true_and, and_true, reduceIte, nZ0, nZ1, fun a k => (jτ42 a k).1, fun a k => (jτ42 a k).2]
          have q13 := rτ42.2.1 0; simp only [rgS] at q13
          split
          · rename_i hc89
            skip
            unfold w_X16_feed_96
            try simp only [forall_eq, rII, rIJ, rIP, rJJ, rJI, rJP, rPP, rPI, rPJ, g1, g2, g3, g4, g5, g6, g7, g8, Nat.reduceEqDiff, Nat.reduceAdd, false_and, and_false, true_and, and_true, reduceIte, nZ0, nZ1, fun a k => (jτ42 a k).1, fun a k => (jτ42 a k).2]
            unfold w_X16_feed_100
            try simp only [forall_eq, rII, rIJ, rIP, rJJ, rJI, rJP, rPP, rPI, rPJ, g1, g2, g3, g4, g5, g6, g7, g8, Nat.reduceEqDiff, Nat.reduceAdd, false_and, and_false, true_and, and_true, reduceIte, nZ0, nZ1, fun a k => (jτ42 a k).1, fun a k => (jτ42 a k).2]
            have q14 := rτ42.2.1 3; simp only [rgS] at q14
            refine hQ _ _ ?_ ?_ ?_
            · exact rτ42
            · exact fτ42
            · exact trivial
          · rename_i hc89
            skip
            unfold w_X16_feed_92
            try simp only [forall_eq, rII, rIJ, rIP, rJJ, rJI, rJP, rPP, rPI, rPJ, g1, g2, g3, g4, g5, g6, g7, g8, Nat.reduceEqDiff, Nat.reduceAdd, false_and, and_false, true_and, and_true, reduceIte, nZ0, nZ1, fun a k => (jτ42 a k).1, fun a k => (jτ42 a k).2]
            unfold w_X16_feed_100
            try simp only [forall_eq, rII, rIJ, rIP, rJJ, rJI, rJP, rPP, rPI, rPJ, g1, g2, g3, g4, g5, g6, g7, g8, Nat.reduceEqDiff, Nat.reduceAdd, false_and, and_false, true_and, and_true, reduceIte, nZ0, nZ1, fun a k => (jτ42 a k).1, fun a k => (jτ42 a k).2]
            refine hQ _ _ ?_ ?_ ?_
            · exact rτ42
            · exact fτ42
            · exact trivial
        · rename_i hc44
          skip
          unfold w_X16_feed_47
          try simp only [forall_eq, rII, rIJ, rIP, rJJ, rJI, rJP, rPP, rPI, rPJ, g1, g2, g3, g4, g5, g6, g7, g8, Nat.reduceEqDiff, Nat.reduceAdd, false_and, and_false, true_and, and_true, reduceIte, nZ0, nZ1, fun a k => (jτ42 a k).1, fun a k => (jτ42 a k).2]
          have q15 := rτ42.2.1 0; simp only [rgS] at q15
          split
          · rename_i hc51
            skip
            unfold w_X16_feed_85
            try simp only [forall_eq, rII, rIJ, rIP, rJJ, rJI, rJP, rPP, rPI, rPJ, g1, g2, g3, g4, g5, g6, g7, g8, Nat.reduceEqDiff, Nat.reduceAdd, false_and, and_false, true_and, and_true, reduceIte, nZ0, nZ1, fun a k => (jτ42 a k).1, fun a k => (jτ42 a k).2]
            split
            · rename_i hc89
              skip
              unfold w_X16_feed_96
              try simp only [forall_eq, rII, rIJ, rIP, rJJ, rJI, rJP, rPP, rPI, rPJ, g1, g2, g3, g4, g5, g6, g7, g8, Nat.reduceEqDiff, Nat.reduceAdd, false_and, and_false, true_and, and_true, reduceIte, nZ0, nZ1, fun a k => (jτ42 a k).1, fun a k => (jτ42 a k).2]
              unfold w_X16_feed_100
              try simp only [forall_eq, rII, rIJ, rIP, rJJ, rJI, rJP, rPP, rPI, rPJ, g1, g2, g3, g4, g5, g6, g7, g8, Nat.reduceEqDiff, Nat.reduceAdd, false_and, and_false, true_and, and_true, reduceIte, nZ0, nZ1, fun a k => (jτ42 a k).1, fun a k => (jτ42 a k).2]
              have q16 := rτ42.2.1 3; simp only [rgS] at q16
              refine hQ _ _ ?_ ?_ ?_
              · exact rτ42
              · exact fτ42
              · exact trivial
            · rename_i hc89
              skip
              unfold w_X16_feed_92
              try simp only [forall_eq, rII, rIJ, rIP, rJJ, rJI, rJP, rPP, rPI, rPJ, g1, g2, g3, g4, g5, g6, g7, g8, Nat.reduceEqDiff, Nat.reduceAdd, false_and, and_false, true_and, and_true, reduceIte, nZ0, nZ1, fun a k => (jτ42 a k).1, fun a k => (jτ42 a k).2]
              unfold w_X16_feed_100
              try simp only [forall_eq, rII, rIJ, rIP, rJJ, rJI, rJP, rPP, rPI, rPJ, g1, g2, g3, g4, g5, g6, g7, g8, Nat.reduceEqDiff, Nat.reduceAdd, false_and, and_false, true_and, and_true, reduceIte, nZ0, nZ1, fun a k => (jτ42 a k).1, fun a k => (jτ42 a k).2]
              refine hQ _ _ ?_ ?_ ?_
              · exact rτ42
              · exact fτ42
              · exact trivial
          · rename_i hc51
            skip
            unfold w_X16_feed_54
            try simp only [forall_eq, rII, rIJ, rIP, rJJ, rJI, rJP, rPP, rPI, rPJ, g1, g2, g3, g4, g5, g6, g7, g8, Nat.reduceEqDiff, Nat.reduceAdd, false_and, and_false, true_and, and_true, reduceIte, nZ0, nZ1, fun a k => (jτ42 a k).1, fun a k => (jτ42 a k).2]
            have q17 := rτ42.2.1 3; simp only [rgS] at q17
            refine ⟨by (first | omega | with_reducible assumption | (unfold rng; omega) | (unfold rng; (repeat' split) <;> omega) | grind), ?_⟩
            refine ⟨by (first | omega | with_reducible assumption | (unfold rng; omega) | (unfold rng; (repeat' split) <;> omega) | grind), ?_⟩
            refine ⟨by (first | omega | with_reducible assumption | (unfold rng; omega) | (unfold rng; (repeat' split) <;> omega) | grind), ?_⟩
            refine ⟨by (first | omega | with_reducible assumption | (unfold rng; omega) | (unfold rng; (repeat' split) <;> omega) | grind), ?_⟩
            refine ih42 _ _ ?_ ?_ ?_ ?_
            · refine Rg.aI g ?_ (by simp only [rgT]; first | with_reducible exact nZ_rng _ | with_reducible exact nB_rng _ | with_reducible exact wr_rng _ | with_reducible exact i32any _ | (first | omega | with_reducible assumption | (unfold rng; omega) | (unfold rng; (repeat' split) <;> omega) | grind)); refine Rg.sI g ?_ (by simp only [rgS]; first | with_reducible exact nZ_rng _ | with_reducible exact nB_rng _ | with_reducible exact wr_rng _ | with_reducible exact i32any _ | (first | omega | with_reducible assumption | (unfold rng; omega) | (unfold rng; (repeat' split) <;> omega) | grind)); exact rτ42
            · refine Fr.aI g ?_ (by decide); refine Fr.sI g ?_ (by decide); exact fτ42
            · (try simp only [rII, rIJ, rIP, rJJ, rJI, rJP, rPP, rPI, rPJ, g1, g2, g3, g4, g5, g6, g7, g8, Nat.reduceEqDiff, Nat.reduceAdd, false_and, and_false, true_and, and_true, reduceIte, nZ0, nZ1, fun a k => (jτ42 a k).1, fun a k => (jτ42 a k).2]) <;> (first | omega | with_reducible assumption | (unfold rng; omega) | (unfold rng; (repeat' split) <;> omega) | grind)
            · (try simp only [rII, rIJ, rIP, rJJ, rJI, rJP, rPP, rPI, rPJ, g1, g2, g3, g4, g5, g6, g7, g8, Nat.reduceEqDiff, Nat.reduceAdd, false_and, and_false, true_and, and_true, reduceIte, nZ0, nZ1, fun a k => (jτ42 a k).1, fun a k => (jτ42 a k).2]) <;> (first | omega | with_reducible assumption | (unfold rng; omega) | (unfold rng; (repeat' split) <;> omega) | grind)
    refine ⟨_, L42 _ _ _ ?_ ?_ ?_ (Nat.lt_succ_self _)⟩
    · refine Rg.sI g ?_ (by simp only [rgS]; first | with_reducible exact nZ_rng _ | with_reducible exact nB_rng _ | with_reducible exact wr_rng _ | with_reducible exact i32any _ | (first | omega | with_reducible assumption | (unfold rng; omega) | (unfold rng; (repeat' split) <;> omega) | grind)); exact rσ
    · refine Fr.sI g ?_ (by decide); exact fσ
    · (try simp only [rII, rIJ, rIP, rJJ, rJI, rJP, rPP, rPI, rPJ, g1, g2, g3, g4, g5, g6, g7, g8, Nat.reduceEqDiff, Nat.reduceAdd, false_and, and_false, true_and, and_true, reduceIte, nZ0, nZ1]) <;> (first | omega | with_reducible assumption | (unfold rng; omega) | (unfold rng; (repeat' split) <;> omega) | grind)
set_option maxHeartbeats 2000000 in
theorem s_X16_order {ra : Nat → Nat} {jx : Nat → Nat → Nat} {rm : Nat} {b3 : Nat} {n3 : Nat} {b7 : Nat} {n7 : Nat} (g : Geo ra jx rm) {σ : Sg} {v1 : Int64} {v3 : Option Nat} {v4 : Int} {v5 : Int64} {v7 : Option Nat} {v8 : Int} {v9 : Int} (rσ : Rg ra jx rm σ) (ha3 : v3 = some b3) (hr3 : rAr ra jx b3 101 n3) (ha7 : v7 = some b7) (hr7 : rAr ra jx b7 101 n7) (h3 : 0 ≤ v4 ∧ v4 + v9 ≤ (n3 : Int)) (h7 : 0 ≤ v8 ∧ v8 + v9 ≤ (n7 : Int)) (h9 : 0 ≤ v9 ∧ v9 ≤ 8) (hn3 : (n3 : Int) ≤ 102416) (hn7 : (n7 : Int) ≤ 102416) {Q : Sg → Int → Prop} {X : Sg → String → Prop} (hQ : ∀ (r : Int), (r = -1 ∨ r = 0 ∨ r = 1) → Q σ r) : wp_X16_order ra jx rm v1 v3 v4 v5 v7 v8 v9 σ Q X := by
  obtain ⟨g1, g2, g3, g4, g5, g6, g7, g8⟩ := id g
  have fσ : Fr ra jx rm [] [] σ σ := Fr.rf
  unfold wp_X16_order
  unfold w_X16_order_0
  try simp only [forall_eq, rII, rIJ, rIP, rJJ, rJI, rJP, rPP, rPI, rPJ, g1, g2, g3, g4, g5, g6, g7, g8, Nat.reduceEqDiff, Nat.reduceAdd, false_and, and_false, true_and, and_true, reduceIte, nZ0, nZ1]
  split
  · rename_i hc4
    skip
    unfold w_X16_order_20
    try simp only [forall_eq, rII, rIJ, rIP, rJJ, rJI, rJP, rPP, rPI, rPJ, g1, g2, g3, g4, g5, g6, g7, g8, Nat.reduceEqDiff, Nat.reduceAdd, false_and, and_false, true_and, and_true, reduceIte, nZ0, nZ1]
    have L23 : ∀ (fu23 : Nat) (v10 : Int), (0 ≤ v10 ∧ v10 ≤ v9) → ((v9 - v10).toNat) < fu23 → wl_X16_order_23 ra jx rm Q X fu23 σ v3 v4 v7 v8 v9 v10 := by
      intro fu23
      induction fu23 with
      | zero => intro  _ _ h9; omega
      | succ fu23 ih23 =>
        intro v10 hi23 hm23
        unfold wl_X16_order_23
        unfold w_X16_order_23
        try simp only [forall_eq, rII, rIJ, rIP, rJJ, rJI, rJP, rPP, rPI, rPJ, g1, g2, g3, g4, g5, g6, g7, g8, Nat.reduceEqDiff, Nat.reduceAdd, false_and, and_false, true_and, and_true, reduceIte, nZ0, nZ1]
        split
        · rename_i hc27
          skip
          unfold w_X16_order_80
          try simp only [forall_eq, rII, rIJ, rIP, rJJ, rJI, rJP, rPP, rPI, rPJ, g1, g2, g3, g4, g5, g6, g7, g8, Nat.reduceEqDiff, Nat.reduceAdd, false_and, and_false, true_and, and_true, reduceIte, nZ0, nZ1]
          refine hQ _ ?_
          · (try simp only [rII, rIJ, rIP, rJJ, rJI, rJP, rPP, rPI, rPJ, g1, g2, g3, g4, g5, g6, g7, g8, Nat.reduceEqDiff, Nat.reduceAdd, false_and, and_false, true_and, and_true, reduceIte, nZ0, nZ1]) <;> (first | omega | with_reducible assumption | (unfold rng; omega) | (unfold rng; (repeat' split) <;> omega) | grind)
        · rename_i hc27
          skip
          unfold w_X16_order_30
          try simp only [forall_eq, rII, rIJ, rIP, rJJ, rJI, rJP, rPP, rPI, rPJ, g1, g2, g3, g4, g5, g6, g7, g8, Nat.reduceEqDiff, Nat.reduceAdd, false_and, and_false, true_and, and_true, reduceIte, nZ0, nZ1]
          refine ⟨by (first | omega | with_reducible assumption | (unfold rng; omega) | (unfold rng; (repeat' split) <;> omega) | grind), ?_⟩
          refine ⟨b3, n3, ha3, hr3, by (first | omega | with_reducible assumption | (unfold rng; omega) | (unfold rng; (repeat' split) <;> omega) | grind), ?_⟩
          refine ⟨by (first | omega | with_reducible assumption | (unfold rng; omega) | (unfold rng; (repeat' split) <;> omega) | grind), ?_⟩
          refine ⟨b7, n7, ha7, hr7, by (first | omega | with_reducible assumption | (unfold rng; omega) | (unfold rng; (repeat' split) <;> omega) | grind), ?_⟩
          split
          · rename_i hc46
            skip
            unfold w_X16_order_74
            try simp only [forall_eq, rII, rIJ, rIP, rJJ, rJI, rJP, rPP, rPI, rPJ, g1, g2, g3, g4, g5, g6, g7, g8, Nat.reduceEqDiff, Nat.reduceAdd, false_and, and_false, true_and, and_true, reduceIte, nZ0, nZ1]
            refine ⟨by (first | omega | with_reducible assumption | (unfold rng; omega) | (unfold rng; (repeat' split) <;> omega) | grind), ?_⟩
            refine ih23 _ ?_ ?_
            · (try simp only [rII, rIJ, rIP, rJJ, rJI, rJP, rPP, rPI, rPJ, g1, g2, g3, g4, g5, g6, g7, g8, Nat.reduceEqDiff, Nat.reduceAdd, false_and, and_false, true_and, and_true, reduceIte, nZ0, nZ1]) <;> (first | omega | with_reducible assumption | (unfold rng; omega) | (unfold rng; (repeat' split) <;> omega) | grind)
            · (try simp only [rII, rIJ, rIP, rJJ, rJI, rJP, rPP, rPI, rPJ, g1, g2, g3, g4, g5, g6, g7, g8, Nat.reduceEqDiff, Nat.reduceAdd, false_and, and_false, true_and, and_true, reduceIte, nZ0, nZ1]) <;> (first | omega | with_reducible assumption | (unfold rng; omega) | (unfold rng; (repeat' split) <;> omega) | grind)
          · rename_i hc46
            skip
            unfold w_X16_order_49
            try simp only [forall_eq, rII, rIJ, rIP, rJJ, rJI, rJP, rPP, rPI, rPJ, g1, g2, g3, g4, g5, g6, g7, g8, Nat.reduceEqDiff, Nat.reduceAdd, false_and, and_false, true_and, and_true, reduceIte, nZ0, nZ1]
            refine ⟨by (first | omega | with_reducible assumption | (unfold rng; omega) | (unfold rng; (repeat' split) <;> omega) | grind), ?_⟩
            refine ⟨b3, n3, ha3, hr3, by (first | omega | with_reducible assumption | (unfold rng; omega) | (unfold rng; (repeat' split) <;> omega) | grind), ?_⟩
            refine ⟨by (first | omega | with_reducible assumption | (unfold rng; omega) | (unfold rng; (repeat' split) <;> omega) | grind), ?_⟩
            refine ⟨b7, n7, ha7, hr7, by (first | omega | with_reducible assumption | (unfold rng; omega) | (unfold rng; (repeat' split) <;> omega) | grind), ?_⟩
            split
            · rename_i hc65
              skip
              unfold w_X16_order_72
              try simp only [forall_eq, rII, rIJ, rIP, rJJ, rJI, rJP, rPP, rPI, rPJ, g1, g2, g3, g4, g5, g6, g7, g8, Nat.reduceEqDiff, Nat.reduceAdd, false_and, and_false, true_and, and_true, reduceIte, nZ0, nZ1]
              unfold w_X16_order_73
              try simp only [forall_eq, rII, rIJ, rIP, rJJ, rJI, rJP, rPP, rPI, rPJ, g1, g2, g3, g4, g5, g6, g7, g8, Nat.reduceEqDiff, Nat.reduceAdd, false_and, and_false, true_and, and_true, reduceIte, nZ0, nZ1]
              refine hQ _ ?_
              · (try simp only [rII, rIJ, rIP, rJJ, rJI, rJP, rPP, rPI, rPJ, g1, g2, g3, g4, g5, g6, g7, g8, Nat.reduceEqDiff, Nat.reduceAdd, false_and, and_false, true_and, and_true, reduceIte, nZ0, nZ1]) <;> (first | omega | with_reducible assumption | (unfold rng; omega) | (unfold rng; (repeat' split) <;> omega) | grind)
            · rename_i hc65
              skip
              unfold w_X16_order_68
              try simp only [forall_eq, rII, rIJ, rIP, rJJ, rJI, rJP, rPP, rPI, rPJ, g1, g2, g3, g4, g5, g6, g7, g8, Nat.reduceEqDiff, Nat.reduceAdd, false_and, and_false, true_and, and_true, reduceIte, nZ0, nZ1]
              unfold w_X16_order_73
              try simp only [forall_eq, rII, rIJ, rIP, rJJ, rJI, rJP, rPP, rPI, rPJ, g1, g2, g3, g4, g5, g6, g7, g8, Nat.reduceEqDiff, Nat.reduceAdd, false_and, and_false, true_and, and_true, reduceIte, nZ0, nZ1]
              refine hQ _ ?_
              · (try simp only [rII, rIJ, rIP, rJJ, rJI, rJP, rPP, rPI, rPJ, g1, g2, g3, g4, g5, g6, g7, g8, Nat.reduceEqDiff, Nat.reduceAdd, false_and, and_false, true_and, and_true, reduceIte, nZ0, nZ1]) <;> (first | omega | with_reducible assumption | (unfold rng; omega) | (unfold rng; (repeat' split) <;> omega) | grind)
    refine ⟨_, L23 _ _ ?_ (Nat.lt_succ_self _)⟩
    · (try simp only [rII, rIJ, rIP, rJJ, rJI, rJP, rPP, rPI, rPJ, g1, g2, g3, g4, g5, g6, g7, g8, Nat.reduceEqDiff, Nat.reduceAdd, false_and, and_false, true_and, and_true, reduceIte, nZ0, nZ1]) <;> (first | omega | with_reducible assumption | (unfold rng; omega) | (unfold rng; (repeat' split) <;> omega) | grind)
  · rename_i hc4
    skip
    unfold w_X16_order_7
    try simp only [forall_eq, rII, rIJ, rIP, rJJ, rJI, rJP, rPP, rPI, rPJ, g1, g2, g3, g4, g5, g6, g7, g8, Nat.reduceEqDiff, Nat.reduceAdd, false_and, and_false, true_and, and_true, reduceIte, nZ0, nZ1]
    split
    · rename_i hc11
      skip
      unfold w_X16_order_18
      try simp only [forall_eq, rII, rIJ, rIP, rJJ, rJI, rJP, rPP, rPI, rPJ, g1, g2, g3, g4, g5, g6, g7, g8, Nat.reduceEqDiff, Nat.reduceAdd, false_and, and_false, true_and, and_true, reduceIte, nZ0, nZ1]
      unfold w_X16_order_19
      try simp only [forall_eq, rII, rIJ, rIP, rJJ, rJI, rJP, rPP, rPI, rPJ, g1, g2, g3, g4, g5, g6, g7, g8, Nat.reduceEqDiff, Nat.reduceAdd, false_and, and_false, true_and, and_true, reduceIte, nZ0, nZ1]
      refine hQ _ ?_
      · (try simp only [rII, rIJ, rIP, rJJ, rJI, rJP, rPP, rPI, rPJ, g1, g2, g3, g4, g5, g6, g7, g8, Nat.reduceEqDiff, Nat.reduceAdd, false_and, and_false, true_and, and_true, reduceIte, nZ0, nZ1]) <;> (first | omega | with_reducible assumption | (unfold rng; omega) | (unfold rng; (repeat' split) <;> omega) | grind)
    · rename_i hc11
      skip
      unfold w_X16_order_14
      try simp only [forall_eq, rII, rIJ, rIP, rJJ, rJI, rJP, rPP, rPI, rPJ, g1, g2, g3, g4, g5, g6, g7, g8, Nat.reduceEqDiff, Nat.reduceAdd, false_and, and_false, true_and, and_true, reduceIte, nZ0, nZ1]
      unfold w_X16_order_19
      try simp only [forall_eq, rII, rIJ, rIP, rJJ, rJI, rJP, rPP, rPI, rPJ, g1, g2, g3, g4, g5, g6, g7, g8, Nat.reduceEqDiff, Nat.reduceAdd, false_and, and_false, true_and, and_true, reduceIte, nZ0, nZ1]
      refine hQ _ ?_
      · (try simp only [rII, rIJ, rIP, rJJ, rJI, rJP, rPP, rPI, rPJ, g1, g2, g3, g4, g5, g6, g7, g8, Nat.reduceEqDiff, Nat.reduceAdd, false_and, and_false, true_and, and_true, reduceIte, nZ0, nZ1]) <;> (first | omega | with_reducible assumption | (unfold rng; omega) | (unfold rng; (repeat' split) <;> omega) | grind)
set_option maxHeartbeats 2000000 in
theorem s_X16_orderOf {ra : Nat → Nat} {jx : Nat → Nat → Nat} {rm : Nat} (g : Geo ra jx rm) {σ : Sg} {v1 : Int} {v2 : Int} {v3 : Int} (rσ : Rg ra jx rm σ) (h1 : 0 ≤ v1 ∧ v1 < 4000) (h2 : 0 ≤ v2 ∧ v2 < 4000) (h3 : 0 ≤ v3 ∧ v3 ≤ 8) {Q : Sg → Int → Prop} {X : Sg → String → Prop} (hQ : ∀ (r : Int), (r = -1 ∨ r = 0 ∨ r = 1) → Q σ r) : wp_X16_orderOf ra jx rm v1 v2 v3 σ Q X := by
  obtain ⟨g1, g2, g3, g4, g5, g6, g7, g8⟩ := id g
  have fσ : Fr ra jx rm [] [] σ σ := Fr.rf
  unfold wp_X16_orderOf
  unfold w_X16_orderOf_0
  try simp only [forall_eq, rII, rIJ, rIP, rJJ, rJI, rJP, rPP, rPI, rPJ, g1, g2, g3, g4, g5, g6, g7, g8, Nat.reduceEqDiff, Nat.reduceAdd, false_and, and_false, true_and, and_true, reduceIte, nZ0, nZ1]
  refine ⟨by (first | omega | with_reducible assumption | (unfold rng; omega) | (unfold rng; (repeat' split) <;> omega) | grind), ?_⟩
  refine ⟨by (first | omega | with_reducible assumption | (unfold rng; omega) | (unfold rng; (repeat' split) <;> omega) | grind), ?_⟩
  refine ⟨by (first | omega | with_reducible assumption | (unfold rng; omega) | (unfold rng; (repeat' split) <;> omega) | grind), ?_⟩
  refine ⟨by (first | omega | with_reducible assumption | (unfold rng; omega) | (unfold rng; (repeat' split) <;> omega) | grind), ?_⟩
  refine s_X16_order (b3 := (ra 73)) (n3 := 32000) (b7 := (ra 73)) (n7 := 32000) g rσ rfl (Or.inl ⟨73, rfl, by decide⟩) rfl (Or.inl ⟨73, rfl, by decide⟩) (by (try simp only [rII, rIJ, rIP, rJJ, rJI, rJP, rPP, rPI, rPJ, g1, g2, g3, g4, g5, g6, g7, g8, Nat.reduceEqDiff, Nat.reduceAdd, false_and, and_false, true_and, and_true, reduceIte, nZ0, nZ1]) <;> (first | omega | with_reducible assumption | (unfold rng; omega) | (unfold rng; (repeat' split) <;> omega) | grind)) (by (try simp only [rII, rIJ, rIP, rJJ, rJI, rJP, rPP, rPI, rPJ, g1, g2, g3, g4, g5, g6, g7, g8, Nat.reduceEqDiff, Nat.reduceAdd, false_and, and_false, true_and, and_true, reduceIte, nZ0, nZ1]) <;> (first | omega | with_reducible assumption | (unfold rng; omega) | (unfold rng; (repeat' split) <;> omega) | grind)) (by (try simp only [rII, rIJ, rIP, rJJ, rJI, rJP, rPP, rPI, rPJ, g1, g2, g3, g4, g5, g6, g7, g8, Nat.reduceEqDiff, Nat.reduceAdd, false_and, and_false, true_and, and_true, reduceIte, nZ0, nZ1]) <;> (first | omega | with_reducible assumption | (unfold rng; omega) | (unfold rng; (repeat' split) <;> omega) | grind)) (by (try simp only [rII, rIJ, rIP, rJJ, rJI, rJP, rPP, rPI, rPJ, g1, g2, g3, g4, g5, g6, g7, g8, Nat.reduceEqDiff, Nat.reduceAdd, false_and, and_false, true_and, and_true, reduceIte, nZ0, nZ1]) <;> (first | omega | with_reducible assumption | (unfold rng; omega) | (unfold rng; (repeat' split) <;> omega) | grind)) (by (try simp only [rII, rIJ, rIP, rJJ, rJI, rJP, rPP, rPI, rPJ, g1, g2, g3, g4, g5, g6, g7, g8, Nat.reduceEqDiff, Nat.reduceAdd, false_and, and_false, true_and, and_true, reduceIte, nZ0, nZ1]) <;> (first | omega | with_reducible assumption | (unfold rng; omega) | (unfold rng; (repeat' split) <;> omega) | grind)) (fun r6 p1 => ?_)
  try simp only [forall_eq, rII, rIJ, rIP, rJJ, rJI, rJP, rPP, rPI, rPJ, g1, g2, g3, g4, g5, g6, g7, g8, Nat.reduceEqDiff, Nat.reduceAdd, false_and, and_false, true_and, and_true, reduceIte, nZ0, nZ1]
  refine hQ _ ?_
  · (try simp only [rII, rIJ, rIP, rJJ, rJI, rJP, rPP, rPI, rPJ, g1, g2, g3, g4, g5, g6, g7, g8, Nat.reduceEqDiff, Nat.reduceAdd, false_and, and_false, true_and, and_true, reduceIte, nZ0, nZ1]) <;> (first | omega | with_reducible assumption | (unfold rng; omega) | (unfold rng; (repeat' split) <;> omega) | grind)
set_option maxHeartbeats 2000000 in
theorem s_X16_pass {ra : Nat → Nat} {jx : Nat → Nat → Nat} {rm : Nat} {b3 : Nat} {n3 : Nat} (g : Geo ra jx rm) {σ : Sg} {v1 : Int64} {v3 : Option Nat} {v4 : Int} (rσ : Rg ra jx rm σ) (ha3 : v3 = some b3) (hr3 : rAr ra jx b3 101 n3) (h4 : 0 ≤ v4 ∧ v4 + 8 ≤ (n3 : Int)) (hn3 : (n3 : Int) ≤ 102416) {Q : Sg → Unit → Prop} {X : Sg → String → Prop} (hQ : ∀ (σ' : Sg) (r : Unit), Rg ra jx rm σ' → Fr ra jx rm [115, 116] [117] σ σ' → (gI σ' rm 117 = gI σ rm 117 + 1) → Q σ' r) (hX : ∀ (σ' : Sg) (E : String), Rg ra jx rm σ' → Fr ra jx rm [115, 116] [117] σ σ' → (E = "StreamHouseModel$Broken") → X σ' E) : wp_X16_pass ra jx rm v1 v3 v4 σ Q X := by
  obtain ⟨g1, g2, g3, g4, g5, g6, g7, g8⟩ := id g
  have fσ : Fr ra jx rm [115, 116] [117] σ σ := Fr.rf
  unfold wp_X16_pass
  unfold w_X16_pass_0
  try simp only [forall_eq, rII, rIJ, rIP, rJJ, rJI, rJP, rPP, rPI, rPJ, g1, g2, g3, g4, g5, g6, g7, g8, Nat.reduceEqDiff, Nat.reduceAdd, false_and, and_false, true_and, and_true, reduceIte, nZ0, nZ1]
  have q1 := rσ.2.1 117; simp only [rgS] at q1
  split
  · rename_i hc7
    skip
    unfold w_X16_pass_15
    try simp only [forall_eq, rII, rIJ, rIP, rJJ, rJI, rJP, rPP, rPI, rPJ, g1, g2, g3, g4, g5, g6, g7, g8, Nat.reduceEqDiff, Nat.reduceAdd, false_and, and_false, true_and, and_true, reduceIte, nZ0, nZ1]
    refine ⟨by (first | omega | with_reducible assumption | (unfold rng; omega) | (unfold rng; (repeat' split) <;> omega) | grind), ?_⟩
    have L28 : ∀ (fu28 : Nat) (τ28 : Sg) (v5 : Int), Rg ra jx rm τ28 → Fr ra jx rm [115, 116] [117] σ τ28 → (0 ≤ v5 ∧ v5 ≤ 8 ∧ gI τ28 rm 117 = gI σ rm 117) → ((8 - v5).toNat) < fu28 → wl_X16_pass_28 ra jx rm Q X fu28 τ28 v3 v4 v5 := by
      intro fu28
      induction fu28 with
      | zero => intro τ28 _ _ _ _ h9; omega
      | succ fu28 ih28 =>
        intro τ28 v5 rτ28 fτ28 hi28 hm28
        unfold wl_X16_pass_28
        have jτ28 := fτ28.2.2.1
        unfold w_X16_pass_28
        try simp only [forall_eq, rII, rIJ, rIP, rJJ, rJI, rJP, rPP, rPI, rPJ, g1, g2, g3, g4, g5, g6, g7, g8, Nat.reduceEqDiff, Nat.reduceAdd, false_and, and_false, true_and, and_true, reduceIte, nZ0, nZ1, fun a k => (jτ28 a k).1, fun a k => (jτ28 a k).2]
        split
        · rename_i hc32
          skip
          unfold w_X16_pass_63
          try simp only [forall_eq, rII, rIJ, rIP, rJJ, rJI, rJP, rPP, rPI, rPJ, g1, g2, g3, g4, g5, g6, g7, g8, Nat.reduceEqDiff, Nat.reduceAdd, false_and, and_false, true_and, and_true, reduceIte, nZ0, nZ1, fun a k => (jτ28 a k).1, fun a k => (jτ28 a k).2]
          have q2 := rτ28.2.1 117; simp only [rgS] at q2
          refine ⟨by (first | omega | with_reducible assumption | (unfold rng; omega) | (unfold rng; (repeat' split) <;> omega) | grind), ?_⟩
          refine hQ _ _ ?_ ?_ ?_
          · refine Rg.sI g ?_ (by simp only [rgS]; first | with_reducible exact nZ_rng _ | with_reducible exact nB_rng _ | with_reducible exact wr_rng _ | with_reducible exact i32any _ | (first | omega | with_reducible assumption | (unfold rng; omega) | (unfold rng; (repeat' split) <;> omega) | grind)); exact rτ28
          · refine Fr.sI g ?_ (by decide); exact fτ28
          · (try simp only [rII, rIJ, rIP, rJJ, rJI, rJP, rPP, rPI, rPJ, g1, g2, g3, g4, g5, g6, g7, g8, Nat.reduceEqDiff, Nat.reduceAdd, false_and, and_false, true_and, and_true, reduceIte, nZ0, nZ1, fun a k => (jτ28 a k).1, fun a k => (jτ28 a k).2]) <;> (first | omega | with_reducible assumption | (unfold rng; omega) | (unfold rng; (repeat' split) <;> omega) | grind)
        · rename_i hc32
          skip
          unfold w_X16_pass_35
          try simp only [forall_eq, rII, rIJ, rIP, rJJ, rJI, rJP, rPP, rPI, rPJ, g1, g2, g3, g4, g5, g6, g7, g8, Nat.reduceEqDiff, Nat.reduceAdd, false_and, and_false, true_and, and_true, reduceIte, nZ0, nZ1, fun a k => (jτ28 a k).1, fun a k => (jτ28 a k).2]
          have q3 := rτ28.2.1 117; simp only [rgS] at q3
          refine ⟨by (first | omega | with_reducible assumption | (unfold rng; omega) | (unfold rng; (repeat' split) <;> omega) | grind), ?_⟩
          refine ⟨by (first | omega | with_reducible assumption | (unfold rng; omega) | (unfold rng; (repeat' split) <;> omega) | grind), ?_⟩
          refine ⟨by (first | omega | with_reducible assumption | (unfold rng; omega) | (unfold rng; (repeat' split) <;> omega) | grind), ?_⟩
          refine ⟨b3, n3, ha3, hr3, by (first | omega | with_reducible assumption | (unfold rng; omega) | (unfold rng; (repeat' split) <;> omega) | grind), ?_⟩
          refine ⟨by (first | omega | with_reducible assumption | (unfold rng; omega) | (unfold rng; (repeat' split) <;> omega) | grind), ?_⟩
          refine ⟨by (first | omega | with_reducible assumption | (unfold rng; omega) | (unfold rng; (repeat' split) <;> omega) | grind), ?_⟩
          refine ih28 _ _ ?_ ?_ ?_ ?_
          · refine Rg.aJ g ?_ (by simp only [rlT]; first | with_reducible assumption | omega | exact Int64.toInt_le _ | (rw [Int64.toInt_ofInt_of_le (by omega) (by omega)]; omega) | grind); exact rτ28
          · refine Fr.aJ g ?_ (by decide); exact fτ28
          · (try simp only [rII, rIJ, rIP, rJJ, rJI, rJP, rPP, rPI, rPJ, g1, g2, g3, g4, g5, g6, g7, g8, Nat.reduceEqDiff, Nat.reduceAdd, false_and, and_false, true_and, and_true, reduceIte, nZ0, nZ1, fun a k => (jτ28 a k).1, fun a k => (jτ28 a k).2]) <;> (first | omega | with_reducible assumption | (unfold rng; omega) | (unfold rng; (repeat' split) <;> omega) | grind)
          · (try simp only [rII, rIJ, rIP, rJJ, rJI, rJP, rPP, rPI, rPJ, g1, g2, g3, g4, g5, g6, g7, g8, Nat.reduceEqDiff, Nat.reduceAdd, false_and, and_false, true_and, and_true, reduceIte, nZ0, nZ1, fun a k => (jτ28 a k).1, fun a k => (jτ28 a k).2]) <;> (first | omega | with_reducible assumption | (unfold rng; omega) | (unfold rng; (repeat' split) <;> omega) | grind)
    refine ⟨_, L28 _ _ _ ?_ ?_ ?_ (Nat.lt_succ_self _)⟩
    · refine Rg.aJ g ?_ (by simp only [rlT]; first | with_reducible assumption | omega | exact Int64.toInt_le _ | (rw [Int64.toInt_ofInt_of_le (by omega) (by omega)]; omega) | grind); exact rσ
    · refine Fr.aJ g ?_ (by decide); exact fσ
    · (try simp only [rII, rIJ, rIP, rJJ, rJI, rJP, rPP, rPI, rPJ, g1, g2, g3, g4, g5, g6, g7, g8, Nat.reduceEqDiff, Nat.reduceAdd, false_and, and_false, true_and, and_true, reduceIte, nZ0, nZ1]) <;> (first | omega | with_reducible assumption | (unfold rng; omega) | (unfold rng; (repeat' split) <;> omega) | grind)
  · rename_i hc7
    skip
    unfold w_X16_pass_10
    try simp only [forall_eq, rII, rIJ, rIP, rJJ, rJI, rJP, rPP, rPI, rPJ, g1, g2, g3, g4, g5, g6, g7, g8, Nat.reduceEqDiff, Nat.reduceAdd, false_and, and_false, true_and, and_true, reduceIte, nZ0, nZ1]
    refine ⟨by simp, ?_⟩
    refine hX _ _ ?_ ?_ ?_
    · exact rσ
    · exact fσ
    · first | rfl | exact ⟨rfl, by trivial⟩
set_option maxHeartbeats 2000000 in
theorem s_X16_gather {ra : Nat → Nat} {jx : Nat → Nat → Nat} {rm : Nat} {ja : Nat} {b3 : Nat} {n3 : Nat} (g : Geo ra jx rm) {σ : Sg} {v1 : Int} {v2 : Int} {v3 : Option Nat} {v4 : Int} (rσ : Rg ra jx rm σ) (hj : gP σ rm 17 = some ja) (hja : ja = ra 15 ∨ ja = ra 16) (ha3 : v3 = some b3) (hr3 : rAr ra jx b3 101 n3) (h1 : 0 ≤ v1 ∧ v1 < 16) (h2 : 0 ≤ v2 ∧ v2 < 4000) (h4 : 0 ≤ v4 ∧ v4 + 8 ≤ (n3 : Int)) (hn3 : (n3 : Int) ≤ 102416) {Q : Sg → Unit → Prop} {X : Sg → String → Prop} (hQ : ∀ (σ' : Sg) (r : Unit), Rg ra jx rm σ' → Fr ra jx rm [73] [] σ σ' → (True) → Q σ' r) : wp_X16_gather ra jx rm v1 v2 v3 v4 σ Q X := by
  obtain ⟨g1, g2, g3, g4, g5, g6, g7, g8⟩ := id g
  have fσ : Fr ra jx rm [73] [] σ σ := Fr.rf
  unfold wp_X16_gather
  unfold w_X16_gather_0
  try simp only [forall_eq, rII, rIJ, rIP, rJJ, rJI, rJP, rPP, rPI, rPJ, g1, g2, g3, g4, g5, g6, g7, g8, Nat.reduceEqDiff, Nat.reduceAdd, false_and, and_false, true_and, and_true, reduceIte, nZ0, nZ1]
  have q1 := rσ.2.2.1 ja 12 (v1.toNat); simp only [rgJ] at q1
  have L3 : ∀ (fu3 : Nat) (τ3 : Sg) (v5 : Int), Rg ra jx rm τ3 → Fr ra jx rm [73] [] σ τ3 → (0 ≤ v5 ∧ v5 ≤ (gI σ (jx ja 12) v1.toNat)) → (((gI σ (jx ja 12) v1.toNat) - v5).toNat) < fu3 → wl_X16_gather_3 ra jx rm Q X fu3 τ3 v1 v2 v3 v4 v5 := by
    intro fu3
    induction fu3 with
    | zero => intro τ3 _ _ _ _ h9; omega
    | succ fu3 ih3 =>
      intro τ3 v5 rτ3 fτ3 hi3 hm3
      unfold wl_X16_gather_3
      have jτ3 := fτ3.2.2.1
      have pτ3 := fτ3.2.2.2
      unfold w_X16_gather_3
      try simp only [forall_eq, rII, rIJ, rIP, rJJ, rJI, rJP, rPP, rPI, rPJ, g1, g2, g3, g4, g5, g6, g7, g8, Nat.reduceEqDiff, Nat.reduceAdd, false_and, and_false, true_and, and_true, reduceIte, nZ0, nZ1, fun a k => (jτ3 a k).1, fun a k => (jτ3 a k).2, pτ3]
      refine ⟨ja, by exact hj, hja, ?_⟩
      refine ⟨by (first | omega | with_reducible assumption | (unfold rng; omega) | (unfold rng; (repeat' split) <;> omega) | grind), ?_⟩
      split
      · rename_i hc14
        skip
        unfold w_X16_gather_72
        try simp only [forall_eq, rII, rIJ, rIP, rJJ, rJI, rJP, rPP, rPI, rPJ, g1, g2, g3, g4, g5, g6, g7, g8, Nat.reduceEqDiff, Nat.reduceAdd, false_and, and_false, true_and, and_true, reduceIte, nZ0, nZ1, fun a k => (jτ3 a k).1, fun a k => (jτ3 a k).2, pτ3]
        refine hQ _ _ ?_ ?_ ?_
        · exact rτ3
        · exact fτ3
        · exact trivial
      · rename_i hc14
        skip
        unfold w_X16_gather_17
        try simp only [forall_eq, rII, rIJ, rIP, rJJ, rJI, rJP, rPP, rPI, rPJ, g1, g2, g3, g4, g5, g6, g7, g8, Nat.reduceEqDiff, Nat.reduceAdd, false_and, and_false, true_and, and_true, reduceIte, nZ0, nZ1, fun a k => (jτ3 a k).1, fun a k => (jτ3 a k).2, pτ3]
        refine ⟨by (first | omega | with_reducible assumption | (unfold rng; omega) | (unfold rng; (repeat' split) <;> omega) | grind), ?_⟩
        refine ⟨by (first | omega | with_reducible assumption | (unfold rng; omega) | (unfold rng; (repeat' split) <;> omega) | grind), ?_⟩
        refine ⟨ja, by exact hj, hja, ?_⟩
        refine ⟨by (first | omega | with_reducible assumption | (unfold rng; omega) | (unfold rng; (repeat' split) <;> omega) | grind), ?_⟩
        refine ⟨by (first | omega | with_reducible assumption | (unfold rng; omega) | (unfold rng; (repeat' split) <;> omega) | grind), ?_⟩
        refine ⟨by (first | omega | with_reducible assumption | (unfold rng; omega) | (unfold rng; (repeat' split) <;> omega) | grind), ?_⟩
        refine ⟨by (first | omega | with_reducible assumption | (unfold rng; omega) | (unfold rng; (repeat' split) <;> omega) | grind), ?_⟩
        refine ⟨by (first | omega | with_reducible assumption | (unfold rng; omega) | (unfold rng; (repeat' split) <;> omega) | grind), ?_⟩
        refine ⟨by (first | omega | with_reducible assumption | (unfold rng; omega) | (unfold rng; (repeat' split) <;> omega) | grind), ?_⟩
        refine ⟨by (first | omega | with_reducible assumption | (unfold rng; omega) | (unfold rng; (repeat' split) <;> omega) | grind), ?_⟩
        refine ⟨b3, n3, ha3, hr3, by (first | omega | with_reducible assumption | (unfold rng; omega) | (unfold rng; (repeat' split) <;> omega) | grind), ?_⟩
        have q2 := rσ.2.2.1 ja 14 (((8 * v1) + v5).toNat); simp only [rgJ] at q2
        refine s_X16_gathered g rτ3 (fun r20 p3 => ?_)
        try simp only [forall_eq, rII, rIJ, rIP, rJJ, rJI, rJP, rPP, rPI, rPJ, g1, g2, g3, g4, g5, g6, g7, g8, Nat.reduceEqDiff, Nat.reduceAdd, false_and, and_false, true_and, and_true, reduceIte, nZ0, nZ1, fun a k => (jτ3 a k).1, fun a k => (jτ3 a k).2, pτ3]
        refine ⟨by (first | omega | with_reducible assumption | (unfold rng; omega) | (unfold rng; (repeat' split) <;> omega) | grind), ?_⟩
        refine ⟨by (first | omega | with_reducible assumption | (unfold rng; omega) | (unfold rng; (repeat' split) <;> omega) | grind), ?_⟩
        refine ih3 _ _ ?_ ?_ ?_ ?_
        · refine Rg.aJ g ?_ (by simp only [rlT]; first | with_reducible assumption | omega | exact Int64.toInt_le _ | (rw [Int64.toInt_ofInt_of_le (by omega) (by omega)]; omega) | grind); exact rτ3
        · refine Fr.aJ g ?_ (by decide); exact fτ3
        · (try simp only [rII, rIJ, rIP, rJJ, rJI, rJP, rPP, rPI, rPJ, g1, g2, g3, g4, g5, g6, g7, g8, Nat.reduceEqDiff, Nat.reduceAdd, false_and, and_false, true_and, and_true, reduceIte, nZ0, nZ1, fun a k => (jτ3 a k).1, fun a k => (jτ3 a k).2, pτ3]) <;> (first | omega | with_reducible assumption | (unfold rng; omega) | (unfold rng; (repeat' split) <;> omega) | grind)
        · (try simp only [rII, rIJ, rIP, rJJ, rJI, rJP, rPP, rPI, rPJ, g1, g2, g3, g4, g5, g6, g7, g8, Nat.reduceEqDiff, Nat.reduceAdd, false_and, and_false, true_and, and_true, reduceIte, nZ0, nZ1, fun a k => (jτ3 a k).1, fun a k => (jτ3 a k).2, pτ3]) <;> (first | omega | with_reducible assumption | (unfold rng; omega) | (unfold rng; (repeat' split) <;> omega) | grind)
  refine ⟨_, L3 _ _ _ ?_ ?_ ?_ (Nat.lt_succ_self _)⟩
  · exact rσ
  · exact fσ
  · (try simp only [rII, rIJ, rIP, rJJ, rJI, rJP, rPP, rPI, rPJ, g1, g2, g3, g4, g5, g6, g7, g8, Nat.reduceEqDiff, Nat.reduceAdd, false_and, and_false, true_and, and_true, reduceIte, nZ0, nZ1]) <;> (first | omega | with_reducible assumption | (unfold rng; omega) | (unfold rng; (repeat' split) <;> omega) | grind)
set_option maxHeartbeats 2000000 in
theorem s_X16_lay {ra : Nat → Nat} {jx : Nat → Nat → Nat} {rm : Nat} {ja : Nat} (g : Geo ra jx rm) {σ : Sg} {v1 : Int} {v2 : Int} {v3 : Int} (rσ : Rg ra jx rm σ) (hj : gP σ rm 17 = some ja) (hja : ja = ra 15 ∨ ja = ra 16) (h1 : 0 ≤ v1 ∧ v1 < 16) (h2 : 0 ≤ v2 ∧ v2 < 4000) (h3 : 0 ≤ v3 ∧ v3 < 4000) (hf : 0 ≤ gI σ (jx ja 4) v1.toNat) (hs : 0 ≤ gI σ (jx ja 5) v1.toNat) {Q : Sg → Unit → Prop} {X : Sg → String → Prop} (hQ : ∀ (σ' : Sg) (r : Unit), Rg ra jx rm σ' → Fr ra jx rm [82] [] σ σ' → (True) → Q σ' r) : wp_X16_lay ra jx rm v1 v2 v3 σ Q X := by
  obtain ⟨g1, g2, g3, g4, g5, g6, g7, g8⟩ := id g
  have fσ : Fr ra jx rm [82] [] σ σ := Fr.rf
  unfold wp_X16_lay
  unfold w_X16_lay_0
  try simp only [forall_eq, rII, rIJ, rIP, rJJ, rJI, rJP, rPP, rPI, rPJ, g1, g2, g3, g4, g5, g6, g7, g8, Nat.reduceEqDiff, Nat.reduceAdd, false_and, and_false, true_and, and_true, reduceIte, nZ0, nZ1]
  refine ⟨ja, by exact hj, hja, ?_⟩
  refine ⟨ja, by exact hj, hja, ?_⟩
  refine ⟨by (first | omega | with_reducible assumption | (unfold rng; omega) | (unfold rng; (repeat' split) <;> omega) | grind), ?_⟩
  have q1 := rσ.2.2.1 ja 4 (v1.toNat); simp only [rgJ] at q1
  refine ⟨by (first | omega | with_reducible assumption | (unfold rng; omega) | (unfold rng; (repeat' split) <;> omega) | grind), ?_⟩
  refine ⟨ja, by exact hj, hja, ?_⟩
  refine ⟨ja, by exact hj, hja, ?_⟩
  refine ⟨by (first | omega | with_reducible assumption | (unfold rng; omega) | (unfold rng; (repeat' split) <;> omega) | grind), ?_⟩
  have q2 := rσ.2.2.1 ja 5 (v1.toNat); simp only [rgJ] at q2
  refine ⟨by (first | omega | with_reducible assumption | (unfold rng; omega) | (unfold rng; (repeat' split) <;> omega) | grind), ?_⟩
  have q3 := rσ.2.2.1 ja 6 ((gI σ (jx ja 4) v1.toNat).toNat); simp only [rgJ] at q3
  have q4 := rσ.2.2.1 ja 6 ((gI σ (jx ja 5) v1.toNat).toNat); simp only [rgJ] at q4
  have L41 : ∀ (fu41 : Nat) (τ41 : Sg) (v6 : Int), Rg ra jx rm τ41 → Fr ra jx rm [82] [] σ τ41 → (0 ≤ v6 ∧ v6 ≤ 8) → ((8 - v6).toNat) < fu41 → wl_X16_lay_41 ra jx rm Q X fu41 τ41 v2 v3 (gI σ (jx ja 6) (gI σ (jx ja 4) v1.toNat).toNat) (gI σ (jx ja 6) (gI σ (jx ja 5) v1.toNat).toNat) v6 := by
    intro fu41
    induction fu41 with
    | zero => intro τ41 _ _ _ _ h9; omega
    | succ fu41 ih41 =>
      intro τ41 v6 rτ41 fτ41 hi41 hm41
      unfold wl_X16_lay_41
      have eτ41_116 := fτ41.1 116 (by decide)
      have jτ41 := fτ41.2.2.1
      have pτ41 := fτ41.2.2.2
      unfold w_X16_lay_41
      try simp only [forall_eq, rII, rIJ, rIP, rJJ, rJI, rJP, rPP, rPI, rPJ, g1, g2, g3, g4, g5, g6, g7, g8, Nat.reduceEqDiff, Nat.reduceAdd, false_and, and_false, true_and, and_true, reduceIte, nZ0, nZ1, eτ41_116.1, eτ41_116.2, fun a k => (jτ41 a k).1, fun a k => (jτ41 a k).2, pτ41]
      split
      · rename_i hc45
        skip
        unfold w_X16_lay_112
        try simp only [forall_eq, rII, rIJ, rIP, rJJ, rJI, rJP, rPP, rPI, rPJ, g1, g2, g3, g4, g5, g6, g7, g8, Nat.reduceEqDiff, Nat.reduceAdd, false_and, and_false, true_and, and_true, reduceIte, nZ0, nZ1, eτ41_116.1, eτ41_116.2, fun a k => (jτ41 a k).1, fun a k => (jτ41 a k).2, pτ41]
        refine hQ _ _ ?_ ?_ ?_
        · exact rτ41
        · exact fτ41
        · exact trivial
      · rename_i hc45
        skip
        unfold w_X16_lay_48
        try simp only [forall_eq, rII, rIJ, rIP, rJJ, rJI, rJP, rPP, rPI, rPJ, g1, g2, g3, g4, g5, g6, g7, g8, Nat.reduceEqDiff, Nat.reduceAdd, false_and, and_false, true_and, and_true, reduceIte, nZ0, nZ1, eτ41_116.1, eτ41_116.2, fun a k => (jτ41 a k).1, fun a k => (jτ41 a k).2, pτ41]
        split
        · rename_i hc58
          skip
          unfold w_X16_lay_76
          try simp only [forall_eq, rII, rIJ, rIP, rJJ, rJI, rJP, rPP, rPI, rPJ, g1, g2, g3, g4, g5, g6, g7, g8, Nat.reduceEqDiff, Nat.reduceAdd, false_and, and_false, true_and, and_true, reduceIte, nZ0, nZ1, eτ41_116.1, eτ41_116.2, fun a k => (jτ41 a k).1, fun a k => (jτ41 a k).2, pτ41]
          refine ⟨by (first | omega | with_reducible assumption | (unfold rng; omega) | (unfold rng; (repeat' split) <;> omega) | grind), ?_⟩
          split
          · rename_i hc83
            skip
            unfold w_X16_lay_104
            try simp only [forall_eq, rII, rIJ, rIP, rJJ, rJI, rJP, rPP, rPI, rPJ, g1, g2, g3, g4, g5, g6, g7, g8, Nat.reduceEqDiff, Nat.reduceAdd, false_and, and_false, true_and, and_true, reduceIte, nZ0, nZ1, eτ41_116.1, eτ41_116.2, fun a k => (jτ41 a k).1, fun a k => (jτ41 a k).2, pτ41]
            unfold w_X16_lay_105
            try simp only [forall_eq, rII, rIJ, rIP, rJJ, rJI, rJP, rPP, rPI, rPJ, g1, g2, g3, g4, g5, g6, g7, g8, Nat.reduceEqDiff, Nat.reduceAdd, false_and, and_false, true_and, and_true, reduceIte, nZ0, nZ1, eτ41_116.1, eτ41_116.2, fun a k => (jτ41 a k).1, fun a k => (jτ41 a k).2, pτ41]
            refine ⟨by (first | omega | with_reducible assumption | (unfold rng; omega) | (unfold rng; (repeat' split) <;> omega) | grind), ?_⟩
            refine ⟨by (first | omega | with_reducible assumption | (unfold rng; omega) | (unfold rng; (repeat' split) <;> omega) | grind), ?_⟩
            refine ih41 _ _ ?_ ?_ ?_ ?_
            · refine Rg.aJ g ?_ (by simp only [rlT]; first | with_reducible assumption | omega | exact Int64.toInt_le _ | (rw [Int64.toInt_ofInt_of_le (by omega) (by omega)]; omega) | grind); exact rτ41
            · refine Fr.aJ g ?_ (by decide); exact fτ41
            · (try simp only [rII, rIJ, rIP, rJJ, rJI, rJP, rPP, rPI, rPJ, g1, g2, g3, g4, g5, g6, g7, g8, Nat.reduceEqDiff, Nat.reduceAdd, false_and, and_false, true_and, and_true, reduceIte, nZ0, nZ1, eτ41_116.1, eτ41_116.2, fun a k => (jτ41 a k).1, fun a k => (jτ41 a k).2, pτ41]) <;> (first | omega | with_reducible assumption | (unfold rng; omega) | (unfold rng; (repeat' split) <;> omega) | grind)
            · (try simp only [rII, rIJ, rIP, rJJ, rJI, rJP, rPP, rPI, rPJ, g1, g2, g3, g4, g5, g6, g7, g8, Nat.reduceEqDiff, Nat.reduceAdd, false_and, and_false, true_and, and_true, reduceIte, nZ0, nZ1, eτ41_116.1, eτ41_116.2, fun a k => (jτ41 a k).1, fun a k => (jτ41 a k).2, pτ41]) <;> (first | omega | with_reducible assumption | (unfold rng; omega) | (unfold rng; (repeat' split) <;> omega) | grind)
          · rename_i hc83
            skip
            unfold w_X16_lay_86
            try simp only [forall_eq, rII, rIJ, rIP, rJJ, rJI, rJP, rPP, rPI, rPJ, g1, g2, g3, g4, g5, g6, g7, g8, Nat.reduceEqDiff, Nat.reduceAdd, false_and, and_false, true_and, and_true, reduceIte, nZ0, nZ1, eτ41_116.1, eτ41_116.2, fun a k => (jτ41 a k).1, fun a k => (jτ41 a k).2, pτ41]
            refine ⟨by (first | omega | with_reducible assumption | (unfold rng; omega) | (unfold rng; (repeat' split) <;> omega) | grind), ?_⟩
            refine ⟨by (first | omega | with_reducible assumption | (unfold rng; omega) | (unfold rng; (repeat' split) <;> omega) | grind), ?_⟩
            refine ⟨by (first | omega | with_reducible assumption | (unfold rng; omega) | (unfold rng; (repeat' split) <;> omega) | grind), ?_⟩
            refine ⟨by (first | omega | with_reducible assumption | (unfold rng; omega) | (unfold rng; (repeat' split) <;> omega) | grind), ?_⟩
            unfold w_X16_lay_105
            try simp only [forall_eq, rII, rIJ, rIP, rJJ, rJI, rJP, rPP, rPI, rPJ, g1, g2, g3, g4, g5, g6, g7, g8, Nat.reduceEqDiff, Nat.reduceAdd, false_and, and_false, true_and, and_true, reduceIte, nZ0, nZ1, eτ41_116.1, eτ41_116.2, fun a k => (jτ41 a k).1, fun a k => (jτ41 a k).2, pτ41]
            refine ⟨by (first | omega | with_reducible assumption | (unfold rng; omega) | (unfold rng; (repeat' split) <;> omega) | grind), ?_⟩
            refine ⟨by (first | omega | with_reducible assumption | (unfold rng; omega) | (unfold rng; (repeat' split) <;> omega) | grind), ?_⟩
            refine ih41 _ _ ?_ ?_ ?_ ?_
            · refine Rg.aJ g ?_ (by simp only [rlT]; first | with_reducible assumption | omega | exact Int64.toInt_le _ | (rw [Int64.toInt_ofInt_of_le (by omega) (by omega)]; omega) | grind); exact rτ41
            · refine Fr.aJ g ?_ (by decide); exact fτ41
            · (try simp only [rII, rIJ, rIP, rJJ, rJI, rJP, rPP, rPI, rPJ, g1, g2, g3, g4, g5, g6, g7, g8, Nat.reduceEqDiff, Nat.reduceAdd, false_and, and_false, true_and, and_true, reduceIte, nZ0, nZ1, eτ41_116.1, eτ41_116.2, fun a k => (jτ41 a k).1, fun a k => (jτ41 a k).2, pτ41]) <;> (first | omega | with_reducible assumption | (unfold rng; omega) | (unfold rng; (repeat' split) <;> omega) | grind)
            · (try simp only [rII, rIJ, rIP, rJJ, rJI, rJP, rPP, rPI, rPJ, g1, g2, g3, g4, g5, g6, g7, g8, Nat.reduceEqDiff, Nat.reduceAdd, false_and, and_false, true_and, and_true, reduceIte, nZ0, nZ1, eτ41_116.1, eτ41_116.2, fun a k => (jτ41 a k).1, fun a k => (jτ41 a k).2, pτ41]) <;> (first | omega | with_reducible assumption | (unfold rng; omega) | (unfold rng; (repeat' split) <;> omega) | grind)
        · rename_i hc58
          skip
          unfold w_X16_lay_61
          try simp only [forall_eq, rII, rIJ, rIP, rJJ, rJI, rJP, rPP, rPI, rPJ, g1, g2, g3, g4, g5, g6, g7, g8, Nat.reduceEqDiff, Nat.reduceAdd, false_and, and_false, true_and, and_true, reduceIte, nZ0, nZ1, eτ41_116.1, eτ41_116.2, fun a k => (jτ41 a k).1, fun a k => (jτ41 a k).2, pτ41]
          refine ⟨by (first | omega | with_reducible assumption | (unfold rng; omega) | (unfold rng; (repeat' split) <;> omega) | grind), ?_⟩
          refine ⟨by (first | omega | with_reducible assumption | (unfold rng; omega) | (unfold rng; (repeat' split) <;> omega) | grind), ?_⟩
          refine ⟨by (first | omega | with_reducible assumption | (unfold rng; omega) | (unfold rng; (repeat' split) <;> omega) | grind), ?_⟩
          unfold w_X16_lay_105
          try simp only [forall_eq, rII, rIJ, rIP, rJJ, rJI, rJP, rPP, rPI, rPJ, g1, g2, g3, g4, g5, g6, g7, g8, Nat.reduceEqDiff, Nat.reduceAdd, false_and, and_false, true_and, and_true, reduceIte, nZ0, nZ1, eτ41_116.1, eτ41_116.2, fun a k => (jτ41 a k).1, fun a k => (jτ41 a k).2, pτ41]
          refine ⟨by (first | omega | with_reducible assumption | (unfold rng; omega) | (unfold rng; (repeat' split) <;> omega) | grind), ?_⟩
          refine ⟨by (first | omega | with_reducible assumption | (unfold rng; omega) | (unfold rng; (repeat' split) <;> omega) | grind), ?_⟩
          refine ih41 _ _ ?_ ?_ ?_ ?_
          · refine Rg.aJ g ?_ (by simp only [rlT]; first | with_reducible assumption | omega | exact Int64.toInt_le _ | (rw [Int64.toInt_ofInt_of_le (by omega) (by omega)]; omega) | grind); exact rτ41
          · refine Fr.aJ g ?_ (by decide); exact fτ41
          · (try simp only [rII, rIJ, rIP, rJJ, rJI, rJP, rPP, rPI, rPJ, g1, g2, g3, g4, g5, g6, g7, g8, Nat.reduceEqDiff, Nat.reduceAdd, false_and, and_false, true_and, and_true, reduceIte, nZ0, nZ1, eτ41_116.1, eτ41_116.2, fun a k => (jτ41 a k).1, fun a k => (jτ41 a k).2, pτ41]) <;> (first | omega | with_reducible assumption | (unfold rng; omega) | (unfold rng; (repeat' split) <;> omega) | grind)
          · (try simp only [rII, rIJ, rIP, rJJ, rJI, rJP, rPP, rPI, rPJ, g1, g2, g3, g4, g5, g6, g7, g8, Nat.reduceEqDiff, Nat.reduceAdd, false_and, and_false, true_and, and_true, reduceIte, nZ0, nZ1, eτ41_116.1, eτ41_116.2, fun a k => (jτ41 a k).1, fun a k => (jτ41 a k).2, pτ41]) <;> (first | omega | with_reducible assumption | (unfold rng; omega) | (unfold rng; (repeat' split) <;> omega) | grind)
  refine ⟨_, L41 _ _ _ ?_ ?_ ?_ (Nat.lt_succ_self _)⟩
  · exact rσ
  · exact fσ
  · (try simp only [rII, rIJ, rIP, rJJ, rJI, rJP, rPP, rPI, rPJ, g1, g2, g3, g4, g5, g6, g7, g8, Nat.reduceEqDiff, Nat.reduceAdd, false_and, and_false, true_and, and_true, reduceIte, nZ0, nZ1]) <;> (first | omega | with_reducible assumption | (unfold rng; omega) | (unfold rng; (repeat' split) <;> omega) | grind)
set_option maxHeartbeats 1000000 in
theorem s_X16_sort {ra : Nat → Nat} {jx : Nat → Nat → Nat} {rm : Nat} {ja : Nat} (g : Geo ra jx rm) {σ : Sg} {v1 : Int} (rσ : Rg ra jx rm σ) (hj : gP σ rm 17 = some ja) (hja : ja = ra 15 ∨ ja = ra 16) (h1 : 0 ≤ v1 ∧ v1 < 16) {Q : Sg → Int → Prop} {X : Sg → String → Prop} (hQ : ∀ (σ' : Sg) (r : Int), Rg ra jx rm σ' → Fr ra jx rm [119] [] σ σ' → (0 ≤ r ∧ r ≤ 4000) → Q σ' r) : wp_X16_sort ra jx rm v1 σ Q X := by
  obtain ⟨g1, g2, g3, g4, g5, g6, g7, g8⟩ := id g
  have fσ : Fr ra jx rm [119] [] σ σ := Fr.rf
  unfold wp_X16_sort
  unfold w_X16_sort_0
  try simp only [forall_eq, rII, rIJ, rIP, rJJ, rJI, rJP, rPP, rPI, rPJ, g1, g2, g3, g4, g5, g6, g7, g8, Nat.reduceEqDiff, Nat.reduceAdd, false_and, and_false, true_and, and_true, reduceIte, nZ0, nZ1]
  refine ⟨by (first | omega | with_reducible assumption | (unfold rng; omega) | (unfold rng; (repeat' split) <;> omega) | grind), ?_⟩
  have q1 := rσ.1 118 (v1.toNat); simp only [rgT] at q1
  have L9 : ∀ (fu9 : Nat) (τ9 : Sg) (v2 : Int) (v3 : Int), Rg ra jx rm τ9 → Fr ra jx rm [119] [] σ τ9 → (gI σ (ra 118) v1.toNat ≤ v3 ∧ v2 = v3 - gI σ (ra 118) v1.toNat ∧ v3 ≤ 4000) → ((4000 - v3).toNat) < fu9 → wl_X16_sort_9 ra jx rm Q X fu9 τ9 v1 v2 v3 := by
    intro fu9
    induction fu9 with
    | zero => intro τ9 _ _ _ _ _ h9; omega
    | succ fu9 ih9 =>
      intro τ9 v2 v3 rτ9 fτ9 hi9 hm9
      unfold wl_X16_sort_9
      have eτ9_115 := fτ9.1 115 (by decide)
      have eτ9_118 := fτ9.1 118 (by decide)
      have jτ9 := fτ9.2.2.1
      have pτ9 := fτ9.2.2.2
      unfold w_X16_sort_9
      try simp only [forall_eq, rII, rIJ, rIP, rJJ, rJI, rJP, rPP, rPI, rPJ, g1, g2, g3, g4, g5, g6, g7, g8, Nat.reduceEqDiff, Nat.reduceAdd, false_and, and_false, true_and, and_true, reduceIte, nZ0, nZ1, eτ9_115.1, eτ9_115.2, eτ9_118.1, eτ9_118.2, fun a k => (jτ9 a k).1, fun a k => (jτ9 a k).2, pτ9]
      refine ⟨by (first | omega | with_reducible assumption | (unfold rng; omega) | (unfold rng; (repeat' split) <;> omega) | grind), ?_⟩
      refine ⟨by (first | omega | with_reducible assumption | (unfold rng; omega) | (unfold rng; (repeat' split) <;> omega) | grind), ?_⟩
      have q2 := rσ.1 118 ((v1 + 1).toNat); simp only [rgT] at q2
      split
      · rename_i hc18
        skip
        unfold w_X16_sort_128
        try simp only [forall_eq, rII, rIJ, rIP, rJJ, rJI, rJP, rPP, rPI, rPJ, g1, g2, g3, g4, g5, g6, g7, g8, Nat.reduceEqDiff, Nat.reduceAdd, false_and, and_false, true_and, and_true, reduceIte, nZ0, nZ1, eτ9_115.1, eτ9_115.2, eτ9_118.1, eτ9_118.2, fun a k => (jτ9 a k).1, fun a k => (jτ9 a k).2, pτ9]
        refine hQ _ _ ?_ ?_ ?_
        · exact rτ9
        · exact fτ9
        · (try simp only [rII, rIJ, rIP, rJJ, rJI, rJP, rPP, rPI, rPJ, g1, g2, g3, g4, g5, g6, g7, g8, Nat.reduceEqDiff, Nat.reduceAdd, false_and, and_false, true_and, and_true, reduceIte, nZ0, nZ1, eτ9_115.1, eτ9_115.2, eτ9_118.1, eτ9_118.2, fun a k => (jτ9 a k).1, fun a k => (jτ9 a k).2, pτ9]) <;> (first | omega | with_reducible assumption | (unfold rng; omega) | (unfold rng; (repeat' split) <;> omega) | grind)
      · rename_i hc18
        skip
        unfold w_X16_sort_21
        try simp only [forall_eq, rII, rIJ, rIP, rJJ, rJI, rJP, rPP, rPI, rPJ, g1, g2, g3, g4, g5, g6, g7, g8, Nat.reduceEqDiff, Nat.reduceAdd, false_and, and_false, true_and, and_true, reduceIte, nZ0, nZ1, eτ9_115.1, eτ9_115.2, eτ9_118.1, eτ9_118.2, fun a k => (jτ9 a k).1, fun a k => (jτ9 a k).2, pτ9]
        have L24 : ∀ (fu24 : Nat) (τ24 : Sg) (v4 : Int), Rg ra jx rm τ24 → Fr ra jx rm [119] [] σ τ24 → (0 ≤ v4 ∧ v4 ≤ v2) → (v4.toNat) < fu24 → wl_X16_sort_24 ra jx rm (wl_X16_sort_9 ra jx rm Q X fu9) Q X fu24 τ24 v1 v2 v3 v4 := by
          intro fu24
          induction fu24 with
          | zero => intro τ24 _ _ _ _ h9; omega
          | succ fu24 ih24 =>
            intro τ24 v4 rτ24 fτ24 hi24 hm24
            unfold wl_X16_sort_24
            have eτ24_115 := fτ24.1 115 (by decide)
            have eτ24_118 := fτ24.1 118 (by decide)
            have jτ24 := fτ24.2.2.1
            have pτ24 := fτ24.2.2.2
            unfold w_X16_sort_24
            try simp only [forall_eq, rII, rIJ, rIP, rJJ, rJI, rJP, rPP, rPI, rPJ, g1, g2, g3, g4, g5, g6, g7, g8, Nat.reduceEqDiff, Nat.reduceAdd, false_and, and_false, true_and, and_true, reduceIte, nZ0, nZ1, eτ24_115.1, eτ24_115.2, eτ24_118.1, eτ24_118.2, fun a k => (jτ24 a k).1, fun a k => (jτ24 a k).2, pτ24]
            split
            · rename_i hc26
              skip
              unfold w_X16_sort_111
              try simp only [forall_eq, rII, rIJ, rIP, rJJ, rJI, rJP, rPP, rPI, rPJ, g1, g2, g3, g4, g5, g6, g7, g8, Nat.reduceEqDiff, Nat.reduceAdd, false_and, and_false, true_and, and_true, reduceIte, nZ0, nZ1, eτ24_115.1, eτ24_115.2, eτ24_118.1, eτ24_118.2, fun a k => (jτ24 a k).1, fun a k => (jτ24 a k).2, pτ24]
              refine ⟨by (first | omega | with_reducible assumption | (unfold rng; omega) | (unfold rng; (repeat' split) <;> omega) | grind), ?_⟩
              refine ⟨by (first | omega | with_reducible assumption | (unfold rng; omega) | (unfold rng; (repeat' split) <;> omega) | grind), ?_⟩
              refine ⟨by (first | omega | with_reducible assumption | (unfold rng; omega) | (unfold rng; (repeat' split) <;> omega) | grind), ?_⟩
              refine ih9 _ _ _ ?_ ?_ ?_ ?_
              · refine Rg.aI g ?_ (by simp only [rgT]; first | with_reducible exact nZ_rng _ | with_reducible exact nB_rng _ | with_reducible exact wr_rng _ | with_reducible exact i32any _ | (first | omega | with_reducible assumption | (unfold rng; omega) | (unfold rng; (repeat' split) <;> omega) | grind)); exact rτ24
              · refine Fr.aI g ?_ (by decide); exact fτ24
              · (try simp only [rII, rIJ, rIP, rJJ, rJI, rJP, rPP, rPI, rPJ, g1, g2, g3, g4, g5, g6, g7, g8, Nat.reduceEqDiff, Nat.reduceAdd, false_and, and_false, true_and, and_true, reduceIte, nZ0, nZ1, eτ24_115.1, eτ24_115.2, eτ24_118.1, eτ24_118.2, fun a k => (jτ24 a k).1, fun a k => (jτ24 a k).2, pτ24]) <;> (first | omega | with_reducible assumption | (unfold rng; omega) | (unfold rng; (repeat' split) <;> omega) | grind)
              · (try simp only [rII, rIJ, rIP, rJJ, rJI, rJP, rPP, rPI, rPJ, g1, g2, g3, g4, g5, g6, g7, g8, Nat.reduceEqDiff, Nat.reduceAdd, false_and, and_false, true_and, and_true, reduceIte, nZ0, nZ1, eτ24_115.1, eτ24_115.2, eτ24_118.1, eτ24_118.2, fun a k => (jτ24 a k).1, fun a k => (jτ24 a k).2, pτ24]) <;> (first | omega | with_reducible assumption | (unfold rng; omega) | (unfold rng; (repeat' split) <;> omega) | grind)
            · rename_i hc26
              skip
              unfold w_X16_sort_29
              try simp only [forall_eq, rII, rIJ, rIP, rJJ, rJI, rJP, rPP, rPI, rPJ, g1, g2, g3, g4, g5, g6, g7, g8, Nat.reduceEqDiff, Nat.reduceAdd, false_and, and_false, true_and, and_true, reduceIte, nZ0, nZ1, eτ24_115.1, eτ24_115.2, eτ24_118.1, eτ24_118.2, fun a k => (jτ24 a k).1, fun a k => (jτ24 a k).2, pτ24]
              refine ⟨by (first | omega | with_reducible assumption | (unfold rng; omega) | (unfold rng; (repeat' split) <;> omega) | grind), ?_⟩
              refine ⟨by (first | omega | with_reducible assumption | (unfold rng; omega) | (unfold rng; (repeat' split) <;> omega) | grind), ?_⟩
              refine ⟨by (first | omega | with_reducible assumption | (unfold rng; omega) | (unfold rng; (repeat' split) <;> omega) | grind), ?_⟩
              refine ⟨by (first | omega | with_reducible assumption | (unfold rng; omega) | (unfold rng; (repeat' split) <;> omega) | grind), ?_⟩
              have q3 := rτ24.1 119 ((v4 - 1).toNat); simp only [rgT] at q3
              refine ⟨by (first | omega | with_reducible assumption | (unfold rng; omega) | (unfold rng; (repeat' split) <;> omega) | grind), ?_⟩
              refine ⟨by (first | omega | with_reducible assumption | (unfold rng; omega) | (unfold rng; (repeat' split) <;> omega) | grind), ?_⟩
              refine ⟨by (first | omega | with_reducible assumption | (unfold rng; omega) | (unfold rng; (repeat' split) <;> omega) | grind), ?_⟩
              refine ⟨by (first | omega | with_reducible assumption | (unfold rng; omega) | (unfold rng; (repeat' split) <;> omega) | grind), ?_⟩
              refine ⟨ja, by exact hj, hja, ?_⟩
              refine ⟨by (first | omega | with_reducible assumption | (unfold rng; omega) | (unfold rng; (repeat' split) <;> omega) | grind), ?_⟩
              have q4 := rσ.2.2.1 ja 6 (v1.toNat); simp only [rgJ] at q4
              refine s_X16_order (b3 := (ra 116)) (n3 := 32000) (b7 := (ra 116)) (n7 := 32000) g rτ24 rfl (Or.inl ⟨116, rfl, by decide⟩) rfl (Or.inl ⟨116, rfl, by decide⟩) (by (try simp only [rII, rIJ, rIP, rJJ, rJI, rJP, rPP, rPI, rPJ, g1, g2, g3, g4, g5, g6, g7, g8, Nat.reduceEqDiff, Nat.reduceAdd, false_and, and_false, true_and, and_true, reduceIte, nZ0, nZ1, eτ24_115.1, eτ24_115.2, eτ24_118.1, eτ24_118.2, fun a k => (jτ24 a k).1, fun a k => (jτ24 a k).2, pτ24]) <;> (first | omega | with_reducible assumption | (unfold rng; omega) | (unfold rng; (repeat' split) <;> omega) | grind)) (by (try simp only [rII, rIJ, rIP, rJJ, rJI, rJP, rPP, rPI, rPJ, g1, g2, g3, g4, g5, g6, g7, g8, Nat.reduceEqDiff, Nat.reduceAdd, false_and, and_false, true_and, and_true, reduceIte, nZ0, nZ1, eτ24_115.1, eτ24_115.2, eτ24_118.1, eτ24_118.2, fun a k => (jτ24 a k).1, fun a k => (jτ24 a k).2, pτ24]) <;> (first | omega | with_reducible assumption | (unfold rng; omega) | (unfold rng; (repeat' split) <;> omega) | grind)) (by (try simp only [rII, rIJ, rIP, rJJ, rJI, rJP, rPP, rPI, rPJ, g1, g2, g3, g4, g5, g6, g7, g8, Nat.reduceEqDiff, Nat.reduceAdd, false_and, and_false, true_and, and_true, reduceIte, nZ0, nZ1, eτ24_115.1, eτ24_115.2, eτ24_118.1, eτ24_118.2, fun a k => (jτ24 a k).1, fun a k => (jτ24 a k).2, pτ24]) <;> (first | omega | with_reducible assumption | (unfold rng; omega) | (unfold rng; (repeat' split) <;> omega) | grind)) (by (try simp only [rII, rIJ, rIP, rJJ, rJI, rJP, rPP, rPI, rPJ, g1, g2, g3, g4, g5, g6, g7, g8, Nat.reduceEqDiff, Nat.reduceAdd, false_and, and_false, true_and, and_true, reduceIte, nZ0, nZ1, eτ24_115.1, eτ24_115.2, eτ24_118.1, eτ24_118.2, fun a k => (jτ24 a k).1, fun a k => (jτ24 a k).2, pτ24]) <;> (first | omega | with_reducible assumption | (unfold rng; omega) | (unfold rng; (repeat' split) <;> omega) | grind)) (by (try simp only [rII, rIJ, rIP, rJJ, rJI, rJP, rPP, rPI, rPJ, g1, g2, g3, g4, g5, g6, g7, g8, Nat.reduceEqDiff, Nat.reduceAdd, false_and, and_false, true_and, and_true, reduceIte, nZ0, nZ1, eτ24_115.1, eτ24_115.2, eτ24_118.1, eτ24_118.2, fun a k => (jτ24 a k).1, fun a k => (jτ24 a k).2, pτ24]) <;> (first | omega | with_reducible assumption | (unfold rng; omega) | (unfold rng; (repeat' split) <;> omega) | grind)) (fun r14 p5 => ?_)
              try simp only [forall_eq, rII, rIJ, rIP, rJJ, rJI, rJP, rPP, rPI, rPJ, g1, g2, g3, g4, g5, g6, g7, g8, Nat.reduceEqDiff, Nat.reduceAdd, false_and, and_false, true_and, and_true, reduceIte, nZ0, nZ1, eτ24_115.1, eτ24_115.2, eτ24_118.1, eτ24_118.2, fun a k => (jτ24 a k).1, fun a k => (jτ24 a k).2, pτ24]
              split
              · rename_i hc86
                skip
                unfold w_X16_sort_111
                try simp only [forall_eq, rII, rIJ, rIP, rJJ, rJI, rJP, rPP, rPI, rPJ, g1, g2, g3, g4, g5, g6, g7, g8, Nat.reduceEqDiff, Nat.reduceAdd, false_and, and_false, true_and, and_true, reduceIte, nZ0, nZ1, eτ24_115.1, eτ24_115.2, eτ24_118.1, eτ24_118.2, fun a k => (jτ24 a k).1, fun a k => (jτ24 a k).2, pτ24]
                refine ⟨by (first | omega | with_reducible assumption | (unfold rng; omega) | (unfold rng; (repeat' split) <;> omega) | grind), ?_⟩
                refine ⟨by (first | omega | with_reducible assumption | (unfold rng; omega) | (unfold rng; (repeat' split) <;> omega) | grind), ?_⟩
                refine ⟨by (first | omega | with_reducible assumption | (unfold rng; omega) | (unfold rng; (repeat' split) <;> omega) | grind), ?_⟩
                refine ih9 _ _ _ ?_ ?_ ?_ ?_
                · refine Rg.aI g ?_ (by simp only [rgT]; first | with_reducible exact nZ_rng _ | with_reducible exact nB_rng _ | with_reducible exact wr_rng _ | with_reducible exact i32any _ | (first | omega | with_reducible assumption | (unfold rng; omega) | (unfold rng; (repeat' split) <;> omega) | grind)); exact rτ24
                · refine Fr.aI g ?_ (by decide); exact fτ24
                · (try simp only [rII, rIJ, rIP, rJJ, rJI, rJP, rPP, rPI, rPJ, g1, g2, g3, g4, g5, g6, g7, g8, Nat.reduceEqDiff, Nat.reduceAdd, false_and, and_false, true_and, and_true, reduceIte, nZ0, nZ1, eτ24_115.1, eτ24_115.2, eτ24_118.1, eτ24_118.2, fun a k => (jτ24 a k).1, fun a k => (jτ24 a k).2, pτ24]) <;> (first | omega | with_reducible assumption | (unfold rng; omega) | (unfold rng; (repeat' split) <;> omega) | grind)
                · (try simp only [rII, rIJ, rIP, rJJ, rJI, rJP, rPP, rPI, rPJ, g1, g2, g3, g4, g5, g6, g7, g8, Nat.reduceEqDiff, Nat.reduceAdd, false_and, and_false, true_and, and_true, reduceIte, nZ0, nZ1, eτ24_115.1, eτ24_115.2, eτ24_118.1, eτ24_118.2, fun a k => (jτ24 a k).1, fun a k => (jτ24 a k).2, pτ24]) <;> (first | omega | with_reducible assumption | (unfold rng; omega) | (unfold rng; (repeat' split) <;> omega) | grind)
              · rename_i hc86
                skip
                unfold w_X16_sort_89
                try simp only [forall_eq, rII, rIJ, rIP, rJJ, rJI, rJP, rPP, rPI, rPJ, g1, g2, g3, g4, g5, g6, g7, g8, Nat.reduceEqDiff, Nat.reduceAdd, false_and, and_false, true_and, and_true, reduceIte, nZ0, nZ1, eτ24_115.1, eτ24_115.2, eτ24_118.1, eτ24_118.2, fun a k => (jτ24 a k).1, fun a k => (jτ24 a k).2, pτ24]
                refine ⟨by (first | omega | with_reducible assumption | (unfold rng; omega) | (unfold rng; (repeat' split) <;> omega) | grind), ?_⟩
                refine ⟨by (first | omega | with_reducible assumption | (unfold rng; omega) | (unfold rng; (repeat' split) <;> omega) | grind), ?_⟩
                refine ⟨by (first | omega | with_reducible assumption | (unfold rng; omega) | (unfold rng; (repeat' split) <;> omega) | grind), ?_⟩
                refine ⟨by (first | omega | with_reducible assumption | (unfold rng; omega) | (unfold rng; (repeat' split) <;> omega) | grind), ?_⟩
                refine ih24 _ _ ?_ ?_ ?_ ?_
                · refine Rg.aI g ?_ (by simp only [rgT]; first | with_reducible exact nZ_rng _ | with_reducible exact nB_rng _ | with_reducible exact wr_rng _ | with_reducible exact i32any _ | (first | omega | with_reducible assumption | (unfold rng; omega) | (unfold rng; (repeat' split) <;> omega) | grind)); exact rτ24
                · refine Fr.aI g ?_ (by decide); exact fτ24
                · (try simp only [rII, rIJ, rIP, rJJ, rJI, rJP, rPP, rPI, rPJ, g1, g2, g3, g4, g5, g6, g7, g8, Nat.reduceEqDiff, Nat.reduceAdd, false_and, and_false, true_and, and_true, reduceIte, nZ0, nZ1, eτ24_115.1, eτ24_115.2, eτ24_118.1, eτ24_118.2, fun a k => (jτ24 a k).1, fun a k => (jτ24 a k).2, pτ24]) <;> (first | omega | with_reducible assumption | (unfold rng; omega) | (unfold rng; (repeat' split) <;> omega) | grind)
                · (try simp only [rII, rIJ, rIP, rJJ, rJI, rJP, rPP, rPI, rPJ, g1, g2, g3, g4, g5, g6, g7, g8, Nat.reduceEqDiff, Nat.reduceAdd, false_and, and_false, true_and, and_true, reduceIte, nZ0, nZ1, eτ24_115.1, eτ24_115.2, eτ24_118.1, eτ24_118.2, fun a k => (jτ24 a k).1, fun a k => (jτ24 a k).2, pτ24]) <;> (first | omega | with_reducible assumption | (unfold rng; omega) | (unfold rng; (repeat' split) <;> omega) | grind)
        refine ⟨_, L24 _ _ _ ?_ ?_ ?_ (Nat.lt_succ_self _)⟩
        · exact rτ9
        · exact fτ9
        · (try simp only [rII, rIJ, rIP, rJJ, rJI, rJP, rPP, rPI, rPJ, g1, g2, g3, g4, g5, g6, g7, g8, Nat.reduceEqDiff, Nat.reduceAdd, false_and, and_false, true_and, and_true, reduceIte, nZ0, nZ1, eτ9_115.1, eτ9_115.2, eτ9_118.1, eτ9_118.2, fun a k => (jτ9 a k).1, fun a k => (jτ9 a k).2, pτ9]) <;> (first | omega | with_reducible assumption | (unfold rng; omega) | (unfold rng; (repeat' split) <;> omega) | grind)
  refine ⟨_, L9 _ _ _ _ ?_ ?_ ?_ (Nat.lt_succ_self _)⟩
  · exact rσ
  · exact fσ
  · (try simp only [rII, rIJ, rIP, rJJ, rJI, rJP, rPP, rPI, rPJ, g1, g2, g3, g4, g5, g6, g7, g8, Nat.reduceEqDiff, Nat.reduceAdd, false_and, and_false, true_and, and_true, reduceIte, nZ0, nZ1]) <;> (first | omega | with_reducible assumption | (unfold rng; omega) | (unfold rng; (repeat' split) <;> omega) | grind)
set_option maxHeartbeats 2000000 in
theorem s_X16_down {ra : Nat → Nat} {jx : Nat → Nat → Nat} {rm : Nat} (g : Geo ra jx rm) {σ : Sg} {v0 : Int64} {v2 : Int64} (rσ : Rg ra jx rm σ) (h2 : v2 ≠ 0) {Q : Sg → Int64 → Prop} {X : Sg → String → Prop} (hQ : ∀ (r : Int64), (r = dnJ v0 v2) → Q σ r) : wp_X16_down ra jx rm v0 v2 σ Q X := by
  obtain ⟨g1, g2, g3, g4, g5, g6, g7, g8⟩ := id g
  have fσ : Fr ra jx rm [] [] σ σ := Fr.rf
  unfold wp_X16_down
  unfold w_X16_down_0
  try simp only [forall_eq, rII, rIJ, rIP, rJJ, rJI, rJP, rPP, rPI, rPJ, g1, g2, g3, g4, g5, g6, g7, g8, Nat.reduceEqDiff, Nat.reduceAdd, false_and, and_false, true_and, and_true, reduceIte, nZ0, nZ1]
  split
  · rename_i hc3
    skip
    unfold w_X16_down_12
    try simp only [forall_eq, rII, rIJ, rIP, rJJ, rJI, rJP, rPP, rPI, rPJ, g1, g2, g3, g4, g5, g6, g7, g8, Nat.reduceEqDiff, Nat.reduceAdd, false_and, and_false, true_and, and_true, reduceIte, nZ0, nZ1]
    refine ⟨by (first | omega | with_reducible assumption | (unfold rng; omega) | (unfold rng; (repeat' split) <;> omega) | grind), ?_⟩
    unfold w_X16_down_21
    try simp only [forall_eq, rII, rIJ, rIP, rJJ, rJI, rJP, rPP, rPI, rPJ, g1, g2, g3, g4, g5, g6, g7, g8, Nat.reduceEqDiff, Nat.reduceAdd, false_and, and_false, true_and, and_true, reduceIte, nZ0, nZ1]
    refine hQ _ ?_
    · unfold dnJ; first | (rw [if_pos (by grind)]) | (rw [if_neg (by grind)])
  · rename_i hc3
    skip
    unfold w_X16_down_6
    try simp only [forall_eq, rII, rIJ, rIP, rJJ, rJI, rJP, rPP, rPI, rPJ, g1, g2, g3, g4, g5, g6, g7, g8, Nat.reduceEqDiff, Nat.reduceAdd, false_and, and_false, true_and, and_true, reduceIte, nZ0, nZ1]
    refine ⟨by (first | omega | with_reducible assumption | (unfold rng; omega) | (unfold rng; (repeat' split) <;> omega) | grind), ?_⟩
    unfold w_X16_down_21
    try simp only [forall_eq, rII, rIJ, rIP, rJJ, rJI, rJP, rPP, rPI, rPJ, g1, g2, g3, g4, g5, g6, g7, g8, Nat.reduceEqDiff, Nat.reduceAdd, false_and, and_false, true_and, and_true, reduceIte, nZ0, nZ1]
    refine hQ _ ?_
    · unfold dnJ; first | (rw [if_pos (by grind)]) | (rw [if_neg (by grind)])

set_option maxHeartbeats 2000000 in
theorem s_X16_leastWaiting {ra : Nat → Nat} {jx : Nat → Nat → Nat} {rm : Nat} {own : Int → Int} {ps : Int → Int} (g : Geo ra jx rm) {σ : Sg} {v1 : Int} {v2 : Int} {v3 : Int64} (rσ : Rg ra jx rm σ) (hrec : RecI ra rm σ own ps) (h1 : 0 ≤ v1 ∧ v1 < 64) (h2 : 0 ≤ v2 ∧ v2 ≤ 8) {Q : Sg → Int → Prop} {X : Sg → String → Prop} (hQ : ∀ (r : Int), (r = -1 ∨ (own r = v1 ∧ gI σ (ra 68) r.toNat = 0 ∧ 0 ≤ r ∧ r < 4000)) → Q σ r) : wp_X16_leastWaiting ra jx rm v1 v2 v3 σ Q X := by
  obtain ⟨g1, g2, g3, g4, g5, g6, g7, g8⟩ := id g
  have fσ : Fr ra jx rm [] [] σ σ := Fr.rf
  have hhd := hrec.hd h1
  unfold wp_X16_leastWaiting
  unfold w_X16_leastWaiting_0
  try simp only [forall_eq, rII, rIJ, rIP, rJJ, rJI, rJP, rPP, rPI, rPJ, g1, g2, g3, g4, g5, g6, g7, g8, Nat.reduceEqDiff, Nat.reduceAdd, false_and, and_false, true_and, and_true, reduceIte, nZ0, nZ1]
  refine ⟨by (first | omega | with_reducible assumption | (unfold rng; omega) | (unfold rng; (repeat' split) <;> omega) | grind), ?_⟩
  have q1 := rσ.1 78 (v1.toNat); simp only [rgT] at q1
  have q2 := rσ.1 76 (v1.toNat); simp only [rgT] at q2
  have L11 : ∀ (fu11 : Nat) (v5 : Int) (v6 : Int), ((v6 = -1 ∨ own v6 = v1) ∧ (v5 = -1 ∨ (own v5 = v1 ∧ gI σ (ra 68) v5.toNat = 0 ∧ 0 ≤ v5 ∧ v5 < 4000))) → ((if v6 < 0 then 0 else gI σ (ra 78) v1.toNat - ps v6).toNat) < fu11 → wl_X16_leastWaiting_11 ra jx rm Q X fu11 σ v2 v3 v5 v6 := by
    intro fu11
    induction fu11 with
    | zero => intro  _ _ _ h9; omega
    | succ fu11 ih11 =>
      intro v5 v6 hi11 hm11
      unfold wl_X16_leastWaiting_11
      unfold w_X16_leastWaiting_11
      try simp only [forall_eq, rII, rIJ, rIP, rJJ, rJI, rJP, rPP, rPI, rPJ, g1, g2, g3, g4, g5, g6, g7, g8, Nat.reduceEqDiff, Nat.reduceAdd, false_and, and_false, true_and, and_true, reduceIte, nZ0, nZ1]
      split
      · rename_i hc14
        skip
        unfold w_X16_leastWaiting_73
        try simp only [forall_eq, rII, rIJ, rIP, rJJ, rJI, rJP, rPP, rPI, rPJ, g1, g2, g3, g4, g5, g6, g7, g8, Nat.reduceEqDiff, Nat.reduceAdd, false_and, and_false, true_and, and_true, reduceIte, nZ0, nZ1]
        refine hQ _ ?_
        · (try simp only [rII, rIJ, rIP, rJJ, rJI, rJP, rPP, rPI, rPJ, g1, g2, g3, g4, g5, g6, g7, g8, Nat.reduceEqDiff, Nat.reduceAdd, false_and, and_false, true_and, and_true, reduceIte, nZ0, nZ1]) <;> (first | omega | with_reducible assumption | (unfold rng; omega) | (unfold rng; (repeat' split) <;> omega) | grind)
      · rename_i hc14
        skip
        unfold w_X16_leastWaiting_17
        try simp only [forall_eq, rII, rIJ, rIP, rJJ, rJI, rJP, rPP, rPI, rPJ, g1, g2, g3, g4, g5, g6, g7, g8, Nat.reduceEqDiff, Nat.reduceAdd, false_and, and_false, true_and, and_true, reduceIte, nZ0, nZ1]
        have nv6 := hrec.nd (hi11.1.resolve_left (by assumption)) h1
        refine ⟨by (first | omega | with_reducible assumption | (unfold rng; omega) | (unfold rng; (repeat' split) <;> omega) | grind), ?_⟩
        have q3 := rσ.1 68 (v6.toNat); simp only [rgT] at q3
        split
        · rename_i hc24
          skip
          unfold w_X16_leastWaiting_61
          try simp only [forall_eq, rII, rIJ, rIP, rJJ, rJI, rJP, rPP, rPI, rPJ, g1, g2, g3, g4, g5, g6, g7, g8, Nat.reduceEqDiff, Nat.reduceAdd, false_and, and_false, true_and, and_true, reduceIte, nZ0, nZ1]
          refine ⟨by (first | omega | with_reducible assumption | (unfold rng; omega) | (unfold rng; (repeat' split) <;> omega) | grind), ?_⟩
          have q4 := rσ.1 75 (v6.toNat); simp only [rgT] at q4
          refine ih11 _ _ ?_ ?_
          · (try simp only [rII, rIJ, rIP, rJJ, rJI, rJP, rPP, rPI, rPJ, g1, g2, g3, g4, g5, g6, g7, g8, Nat.reduceEqDiff, Nat.reduceAdd, false_and, and_false, true_and, and_true, reduceIte, nZ0, nZ1]) <;> (first | omega | with_reducible assumption | (unfold rng; omega) | (unfold rng; (repeat' split) <;> omega) | grind)
          · (try simp only [rII, rIJ, rIP, rJJ, rJI, rJP, rPP, rPI, rPJ, g1, g2, g3, g4, g5, g6, g7, g8, Nat.reduceEqDiff, Nat.reduceAdd, false_and, and_false, true_and, and_true, reduceIte, nZ0, nZ1]) <;> (first | omega | with_reducible assumption | (unfold rng; omega) | (unfold rng; (repeat' split) <;> omega) | grind)
        · rename_i hc24
          skip
          unfold w_X16_leastWaiting_27
          try simp only [forall_eq, rII, rIJ, rIP, rJJ, rJI, rJP, rPP, rPI, rPJ, g1, g2, g3, g4, g5, g6, g7, g8, Nat.reduceEqDiff, Nat.reduceAdd, false_and, and_false, true_and, and_true, reduceIte, nZ0, nZ1]
          refine ⟨by (first | omega | with_reducible assumption | (unfold rng; omega) | (unfold rng; (repeat' split) <;> omega) | grind), ?_⟩
          split
          · rename_i hc36
            skip
            unfold w_X16_leastWaiting_61
            try simp only [forall_eq, rII, rIJ, rIP, rJJ, rJI, rJP, rPP, rPI, rPJ, g1, g2, g3, g4, g5, g6, g7, g8, Nat.reduceEqDiff, Nat.reduceAdd, false_and, and_false, true_and, and_true, reduceIte, nZ0, nZ1]
            refine ⟨by (first | omega | with_reducible assumption | (unfold rng; omega) | (unfold rng; (repeat' split) <;> omega) | grind), ?_⟩
            have q5 := rσ.1 75 (v6.toNat); simp only [rgT] at q5
            refine ih11 _ _ ?_ ?_
            · (try simp only [rII, rIJ, rIP, rJJ, rJI, rJP, rPP, rPI, rPJ, g1, g2, g3, g4, g5, g6, g7, g8, Nat.reduceEqDiff, Nat.reduceAdd, false_and, and_false, true_and, and_true, reduceIte, nZ0, nZ1]) <;> (first | omega | with_reducible assumption | (unfold rng; omega) | (unfold rng; (repeat' split) <;> omega) | grind)
            · (try simp only [rII, rIJ, rIP, rJJ, rJI, rJP, rPP, rPI, rPJ, g1, g2, g3, g4, g5, g6, g7, g8, Nat.reduceEqDiff, Nat.reduceAdd, false_and, and_false, true_and, and_true, reduceIte, nZ0, nZ1]) <;> (first | omega | with_reducible assumption | (unfold rng; omega) | (unfold rng; (repeat' split) <;> omega) | grind)
          · rename_i hc36
            skip
            unfold w_X16_leastWaiting_39
            try simp only [forall_eq, rII, rIJ, rIP, rJJ, rJI, rJP, rPP, rPI, rPJ, g1, g2, g3, g4, g5, g6, g7, g8, Nat.reduceEqDiff, Nat.reduceAdd, false_and, and_false, true_and, and_true, reduceIte, nZ0, nZ1]
            split
            · rename_i hc42
              skip
              unfold w_X16_leastWaiting_57
              try simp only [forall_eq, rII, rIJ, rIP, rJJ, rJI, rJP, rPP, rPI, rPJ, g1, g2, g3, g4, g5, g6, g7, g8, Nat.reduceEqDiff, Nat.reduceAdd, false_and, and_false, true_and, and_true, reduceIte, nZ0, nZ1]
              unfold w_X16_leastWaiting_61
              try simp only [forall_eq, rII, rIJ, rIP, rJJ, rJI, rJP, rPP, rPI, rPJ, g1, g2, g3, g4, g5, g6, g7, g8, Nat.reduceEqDiff, Nat.reduceAdd, false_and, and_false, true_and, and_true, reduceIte, nZ0, nZ1]
              refine ⟨by (first | omega | with_reducible assumption | (unfold rng; omega) | (unfold rng; (repeat' split) <;> omega) | grind), ?_⟩
              have q6 := rσ.1 75 (v6.toNat); simp only [rgT] at q6
              refine ih11 _ _ ?_ ?_
              · (try simp only [rII, rIJ, rIP, rJJ, rJI, rJP, rPP, rPI, rPJ, g1, g2, g3, g4, g5, g6, g7, g8, Nat.reduceEqDiff, Nat.reduceAdd, false_and, and_false, true_and, and_true, reduceIte, nZ0, nZ1]) <;> (first | omega | with_reducible assumption | (unfold rng; omega) | (unfold rng; (repeat' split) <;> omega) | grind)
              · (try simp only [rII, rIJ, rIP, rJJ, rJI, rJP, rPP, rPI, rPJ, g1, g2, g3, g4, g5, g6, g7, g8, Nat.reduceEqDiff, Nat.reduceAdd, false_and, and_false, true_and, and_true, reduceIte, nZ0, nZ1]) <;> (first | omega | with_reducible assumption | (unfold rng; omega) | (unfold rng; (repeat' split) <;> omega) | grind)
            · rename_i hc42
              skip
              unfold w_X16_leastWaiting_45
              try simp only [forall_eq, rII, rIJ, rIP, rJJ, rJI, rJP, rPP, rPI, rPJ, g1, g2, g3, g4, g5, g6, g7, g8, Nat.reduceEqDiff, Nat.reduceAdd, false_and, and_false, true_and, and_true, reduceIte, nZ0, nZ1]
              refine s_X16_orderOf g rσ (by (try simp only [rII, rIJ, rIP, rJJ, rJI, rJP, rPP, rPI, rPJ, g1, g2, g3, g4, g5, g6, g7, g8, Nat.reduceEqDiff, Nat.reduceAdd, false_and, and_false, true_and, and_true, reduceIte, nZ0, nZ1]) <;> (first | omega | with_reducible assumption | (unfold rng; omega) | (unfold rng; (repeat' split) <;> omega) | grind)) (by (try simp only [rII, rIJ, rIP, rJJ, rJI, rJP, rPP, rPI, rPJ, g1, g2, g3, g4, g5, g6, g7, g8, Nat.reduceEqDiff, Nat.reduceAdd, false_and, and_false, true_and, and_true, reduceIte, nZ0, nZ1]) <;> (first | omega | with_reducible assumption | (unfold rng; omega) | (unfold rng; (repeat' split) <;> omega) | grind)) (by (try simp only [rII, rIJ, rIP, rJJ, rJI, rJP, rPP, rPI, rPJ, g1, g2, g3, g4, g5, g6, g7, g8, Nat.reduceEqDiff, Nat.reduceAdd, false_and, and_false, true_and, and_true, reduceIte, nZ0, nZ1]) <;> (first | omega | with_reducible assumption | (unfold rng; omega) | (unfold rng; (repeat' split) <;> omega) | grind)) (fun r6 p7 => ?_)
              try simp only [forall_eq, rII, rIJ, rIP, rJJ, rJI, rJP, rPP, rPI, rPJ, g1, g2, g3, g4, g5, g6, g7, g8, Nat.reduceEqDiff, Nat.reduceAdd, false_and, and_false, true_and, and_true, reduceIte, nZ0, nZ1]
              split
              · rename_i hc54
                skip
                unfold w_X16_leastWaiting_61
                try simp only [forall_eq, rII, rIJ, rIP, rJJ, rJI, rJP, rPP, rPI, rPJ, g1, g2, g3, g4, g5, g6, g7, g8, Nat.reduceEqDiff, Nat.reduceAdd, false_and, and_false, true_and, and_true, reduceIte, nZ0, nZ1]
                refine ⟨by (first | omega | with_reducible assumption | (unfold rng; omega) | (unfold rng; (repeat' split) <;> omega) | grind), ?_⟩
                have q8 := rσ.1 75 (v6.toNat); simp only [rgT] at q8
                refine ih11 _ _ ?_ ?_
                · (try simp only [rII, rIJ, rIP, rJJ, rJI, rJP, rPP, rPI, rPJ, g1, g2, g3, g4, g5, g6, g7, g8, Nat.reduceEqDiff, Nat.reduceAdd, false_and, and_false, true_and, and_true, reduceIte, nZ0, nZ1]) <;> (first | omega | with_reducible assumption | (unfold rng; omega) | (unfold rng; (repeat' split) <;> omega) | grind)
                · (try simp only [rII, rIJ, rIP, rJJ, rJI, rJP, rPP, rPI, rPJ, g1, g2, g3, g4, g5, g6, g7, g8, Nat.reduceEqDiff, Nat.reduceAdd, false_and, and_false, true_and, and_true, reduceIte, nZ0, nZ1]) <;> (first | omega | with_reducible assumption | (unfold rng; omega) | (unfold rng; (repeat' split) <;> omega) | grind)
              · rename_i hc54
                skip
                unfold w_X16_leastWaiting_57
                try simp only [forall_eq, rII, rIJ, rIP, rJJ, rJI, rJP, rPP, rPI, rPJ, g1, g2, g3, g4, g5, g6, g7, g8, Nat.reduceEqDiff, Nat.reduceAdd, false_and, and_false, true_and, and_true, reduceIte, nZ0, nZ1]
                unfold w_X16_leastWaiting_61
                try simp only [forall_eq, rII, rIJ, rIP, rJJ, rJI, rJP, rPP, rPI, rPJ, g1, g2, g3, g4, g5, g6, g7, g8, Nat.reduceEqDiff, Nat.reduceAdd, false_and, and_false, true_and, and_true, reduceIte, nZ0, nZ1]
                refine ⟨by (first | omega | with_reducible assumption | (unfold rng; omega) | (unfold rng; (repeat' split) <;> omega) | grind), ?_⟩
                have q9 := rσ.1 75 (v6.toNat); simp only [rgT] at q9
                refine ih11 _ _ ?_ ?_
                · (try simp only [rII, rIJ, rIP, rJJ, rJI, rJP, rPP, rPI, rPJ, g1, g2, g3, g4, g5, g6, g7, g8, Nat.reduceEqDiff, Nat.reduceAdd, false_and, and_false, true_and, and_true, reduceIte, nZ0, nZ1]) <;> (first | omega | with_reducible assumption | (unfold rng; omega) | (unfold rng; (repeat' split) <;> omega) | grind)
                · (try simp only [rII, rIJ, rIP, rJJ, rJI, rJP, rPP, rPI, rPJ, g1, g2, g3, g4, g5, g6, g7, g8, Nat.reduceEqDiff, Nat.reduceAdd, false_and, and_false, true_and, and_true, reduceIte, nZ0, nZ1]) <;> (first | omega | with_reducible assumption | (unfold rng; omega) | (unfold rng; (repeat' split) <;> omega) | grind)
  refine ⟨_, L11 _ _ _ ?_ (Nat.lt_succ_self _)⟩
  · (try simp only [rII, rIJ, rIP, rJJ, rJI, rJP, rPP, rPI, rPJ, g1, g2, g3, g4, g5, g6, g7, g8, Nat.reduceEqDiff, Nat.reduceAdd, false_and, and_false, true_and, and_true, reduceIte, nZ0, nZ1]) <;> (first | omega | with_reducible assumption | (unfold rng; omega) | (unfold rng; (repeat' split) <;> omega) | grind)
set_option maxHeartbeats 2000000 in
theorem s_X16_greatestOf {ra : Nat → Nat} {jx : Nat → Nat → Nat} {rm : Nat} {ja : Nat} {own : Int → Int} {ps : Int → Int} (g : Geo ra jx rm) {σ : Sg} {v1 : Int} {v2 : Int} {v3 : Int64} {v5 : Int64} (rσ : Rg ra jx rm σ) (hj : gP σ rm 17 = some ja) (hja : ja = ra 15 ∨ ja = ra 16) (hrec : RecI ra rm σ own ps) (h1 : 0 ≤ v1 ∧ v1 < 64) (h2 : 0 ≤ v2 ∧ v2 < 16) (hs : 0 ≤ gI σ (jx ja 5) v2.toNat) {Q : Sg → Int → Prop} {X : Sg → String → Prop} (hQ : ∀ (r : Int), (r = -1 ∨ (own r = v1 ∧ gI σ (ra 68) r.toNat = 1 ∧ 0 ≤ r ∧ r < 4000)) → Q σ r) : wp_X16_greatestOf ra jx rm v1 v2 v3 v5 σ Q X := by
  obtain ⟨g1, g2, g3, g4, g5, g6, g7, g8⟩ := id g
  have fσ : Fr ra jx rm [] [] σ σ := Fr.rf
  have hhd := hrec.hd h1
  unfold wp_X16_greatestOf
  unfold w_X16_greatestOf_0
  try simp only [forall_eq, rII, rIJ, rIP, rJJ, rJI, rJP, rPP, rPI, rPJ, g1, g2, g3, g4, g5, g6, g7, g8, Nat.reduceEqDiff, Nat.reduceAdd, false_and, and_false, true_and, and_true, reduceIte, nZ0, nZ1]
  refine ⟨by (first | omega | with_reducible assumption | (unfold rng; omega) | (unfold rng; (repeat' split) <;> omega) | grind), ?_⟩
  have q1 := rσ.1 78 (v1.toNat); simp only [rgT] at q1
  have q2 := rσ.1 76 (v1.toNat); simp only [rgT] at q2
  have L11 : ∀ (fu11 : Nat) (v7 : Int) (v8 : Int), ((v8 = -1 ∨ own v8 = v1) ∧ (v7 = -1 ∨ (own v7 = v1 ∧ gI σ (ra 68) v7.toNat = 1 ∧ 0 ≤ v7 ∧ v7 < 4000))) → ((if v8 < 0 then 0 else gI σ (ra 78) v1.toNat - ps v8).toNat) < fu11 → wl_X16_greatestOf_11 ra jx rm Q X fu11 σ v2 v3 v5 v7 v8 := by
    intro fu11
    induction fu11 with
    | zero => intro  _ _ _ h9; omega
    | succ fu11 ih11 =>
      intro v7 v8 hi11 hm11
      unfold wl_X16_greatestOf_11
      unfold w_X16_greatestOf_11
      try simp only [forall_eq, rII, rIJ, rIP, rJJ, rJI, rJP, rPP, rPI, rPJ, g1, g2, g3, g4, g5, g6, g7, g8, Nat.reduceEqDiff, Nat.reduceAdd, false_and, and_false, true_and, and_true, reduceIte, nZ0, nZ1]
      split
      · rename_i hc14
        skip
        unfold w_X16_greatestOf_103
        try simp only [forall_eq, rII, rIJ, rIP, rJJ, rJI, rJP, rPP, rPI, rPJ, g1, g2, g3, g4, g5, g6, g7, g8, Nat.reduceEqDiff, Nat.reduceAdd, false_and, and_false, true_and, and_true, reduceIte, nZ0, nZ1]
        refine hQ _ ?_
        · (try simp only [rII, rIJ, rIP, rJJ, rJI, rJP, rPP, rPI, rPJ, g1, g2, g3, g4, g5, g6, g7, g8, Nat.reduceEqDiff, Nat.reduceAdd, false_and, and_false, true_and, and_true, reduceIte, nZ0, nZ1]) <;> (first | omega | with_reducible assumption | (unfold rng; omega) | (unfold rng; (repeat' split) <;> omega) | grind)
      · rename_i hc14
        skip
        unfold w_X16_greatestOf_17
        try simp only [forall_eq, rII, rIJ, rIP, rJJ, rJI, rJP, rPP, rPI, rPJ, g1, g2, g3, g4, g5, g6, g7, g8, Nat.reduceEqDiff, Nat.reduceAdd, false_and, and_false, true_and, and_true, reduceIte, nZ0, nZ1]
        have nv8 := hrec.nd (hi11.1.resolve_left (by assumption)) h1
        refine ⟨by (first | omega | with_reducible assumption | (unfold rng; omega) | (unfold rng; (repeat' split) <;> omega) | grind), ?_⟩
        have q3 := rσ.1 68 (v8.toNat); simp only [rgT] at q3
        split
        · rename_i hc25
          skip
          unfold w_X16_greatestOf_91
          try simp only [forall_eq, rII, rIJ, rIP, rJJ, rJI, rJP, rPP, rPI, rPJ, g1, g2, g3, g4, g5, g6, g7, g8, Nat.reduceEqDiff, Nat.reduceAdd, false_and, and_false, true_and, and_true, reduceIte, nZ0, nZ1]
          refine ⟨by (first | omega | with_reducible assumption | (unfold rng; omega) | (unfold rng; (repeat' split) <;> omega) | grind), ?_⟩
          have q4 := rσ.1 75 (v8.toNat); simp only [rgT] at q4
          refine ih11 _ _ ?_ ?_
          · (try simp only [rII, rIJ, rIP, rJJ, rJI, rJP, rPP, rPI, rPJ, g1, g2, g3, g4, g5, g6, g7, g8, Nat.reduceEqDiff, Nat.reduceAdd, false_and, and_false, true_and, and_true, reduceIte, nZ0, nZ1]) <;> (first | omega | with_reducible assumption | (unfold rng; omega) | (unfold rng; (repeat' split) <;> omega) | grind)
          · (try simp only [rII, rIJ, rIP, rJJ, rJI, rJP, rPP, rPI, rPJ, g1, g2, g3, g4, g5, g6, g7, g8, Nat.reduceEqDiff, Nat.reduceAdd, false_and, and_false, true_and, and_true, reduceIte, nZ0, nZ1]) <;> (first | omega | with_reducible assumption | (unfold rng; omega) | (unfold rng; (repeat' split) <;> omega) | grind)
        · rename_i hc25
          skip
          unfold w_X16_greatestOf_28
          try simp only [forall_eq, rII, rIJ, rIP, rJJ, rJI, rJP, rPP, rPI, rPJ, g1, g2, g3, g4, g5, g6, g7, g8, Nat.reduceEqDiff, Nat.reduceAdd, false_and, and_false, true_and, and_true, reduceIte, nZ0, nZ1]
          refine ⟨by (first | omega | with_reducible assumption | (unfold rng; omega) | (unfold rng; (repeat' split) <;> omega) | grind), ?_⟩
          split
          · rename_i hc37
            skip
            unfold w_X16_greatestOf_91
            try simp only [forall_eq, rII, rIJ, rIP, rJJ, rJI, rJP, rPP, rPI, rPJ, g1, g2, g3, g4, g5, g6, g7, g8, Nat.reduceEqDiff, Nat.reduceAdd, false_and, and_false, true_and, and_true, reduceIte, nZ0, nZ1]
            refine ⟨by (first | omega | with_reducible assumption | (unfold rng; omega) | (unfold rng; (repeat' split) <;> omega) | grind), ?_⟩
            have q5 := rσ.1 75 (v8.toNat); simp only [rgT] at q5
            refine ih11 _ _ ?_ ?_
            · (try simp only [rII, rIJ, rIP, rJJ, rJI, rJP, rPP, rPI, rPJ, g1, g2, g3, g4, g5, g6, g7, g8, Nat.reduceEqDiff, Nat.reduceAdd, false_and, and_false, true_and, and_true, reduceIte, nZ0, nZ1]) <;> (first | omega | with_reducible assumption | (unfold rng; omega) | (unfold rng; (repeat' split) <;> omega) | grind)
            · (try simp only [rII, rIJ, rIP, rJJ, rJI, rJP, rPP, rPI, rPJ, g1, g2, g3, g4, g5, g6, g7, g8, Nat.reduceEqDiff, Nat.reduceAdd, false_and, and_false, true_and, and_true, reduceIte, nZ0, nZ1]) <;> (first | omega | with_reducible assumption | (unfold rng; omega) | (unfold rng; (repeat' split) <;> omega) | grind)
          · rename_i hc37
            skip
            unfold w_X16_greatestOf_40
            try simp only [forall_eq, rII, rIJ, rIP, rJJ, rJI, rJP, rPP, rPI, rPJ, g1, g2, g3, g4, g5, g6, g7, g8, Nat.reduceEqDiff, Nat.reduceAdd, false_and, and_false, true_and, and_true, reduceIte, nZ0, nZ1]
            refine ⟨by (first | omega | with_reducible assumption | (unfold rng; omega) | (unfold rng; (repeat' split) <;> omega) | grind), ?_⟩
            split
            · rename_i hc50
              skip
              unfold w_X16_greatestOf_91
              try simp only [forall_eq, rII, rIJ, rIP, rJJ, rJI, rJP, rPP, rPI, rPJ, g1, g2, g3, g4, g5, g6, g7, g8, Nat.reduceEqDiff, Nat.reduceAdd, false_and, and_false, true_and, and_true, reduceIte, nZ0, nZ1]
              refine ⟨by (first | omega | with_reducible assumption | (unfold rng; omega) | (unfold rng; (repeat' split) <;> omega) | grind), ?_⟩
              have q6 := rσ.1 75 (v8.toNat); simp only [rgT] at q6
              refine ih11 _ _ ?_ ?_
              · (try simp only [rII, rIJ, rIP, rJJ, rJI, rJP, rPP, rPI, rPJ, g1, g2, g3, g4, g5, g6, g7, g8, Nat.reduceEqDiff, Nat.reduceAdd, false_and, and_false, true_and, and_true, reduceIte, nZ0, nZ1]) <;> (first | omega | with_reducible assumption | (unfold rng; omega) | (unfold rng; (repeat' split) <;> omega) | grind)
              · (try simp only [rII, rIJ, rIP, rJJ, rJI, rJP, rPP, rPI, rPJ, g1, g2, g3, g4, g5, g6, g7, g8, Nat.reduceEqDiff, Nat.reduceAdd, false_and, and_false, true_and, and_true, reduceIte, nZ0, nZ1]) <;> (first | omega | with_reducible assumption | (unfold rng; omega) | (unfold rng; (repeat' split) <;> omega) | grind)
            · rename_i hc50
              skip
              unfold w_X16_greatestOf_53
              try simp only [forall_eq, rII, rIJ, rIP, rJJ, rJI, rJP, rPP, rPI, rPJ, g1, g2, g3, g4, g5, g6, g7, g8, Nat.reduceEqDiff, Nat.reduceAdd, false_and, and_false, true_and, and_true, reduceIte, nZ0, nZ1]
              split
              · rename_i hc56
                skip
                unfold w_X16_greatestOf_87
                try simp only [forall_eq, rII, rIJ, rIP, rJJ, rJI, rJP, rPP, rPI, rPJ, g1, g2, g3, g4, g5, g6, g7, g8, Nat.reduceEqDiff, Nat.reduceAdd, false_and, and_false, true_and, and_true, reduceIte, nZ0, nZ1]
                unfold w_X16_greatestOf_91
                try simp only [forall_eq, rII, rIJ, rIP, rJJ, rJI, rJP, rPP, rPI, rPJ, g1, g2, g3, g4, g5, g6, g7, g8, Nat.reduceEqDiff, Nat.reduceAdd, false_and, and_false, true_and, and_true, reduceIte, nZ0, nZ1]
                refine ⟨by (first | omega | with_reducible assumption | (unfold rng; omega) | (unfold rng; (repeat' split) <;> omega) | grind), ?_⟩
                have q7 := rσ.1 75 (v8.toNat); simp only [rgT] at q7
                refine ih11 _ _ ?_ ?_
                · (try simp only [rII, rIJ, rIP, rJJ, rJI, rJP, rPP, rPI, rPJ, g1, g2, g3, g4, g5, g6, g7, g8, Nat.reduceEqDiff, Nat.reduceAdd, false_and, and_false, true_and, and_true, reduceIte, nZ0, nZ1]) <;> (first | omega | with_reducible assumption | (unfold rng; omega) | (unfold rng; (repeat' split) <;> omega) | grind)
                · (try simp only [rII, rIJ, rIP, rJJ, rJI, rJP, rPP, rPI, rPJ, g1, g2, g3, g4, g5, g6, g7, g8, Nat.reduceEqDiff, Nat.reduceAdd, false_and, and_false, true_and, and_true, reduceIte, nZ0, nZ1]) <;> (first | omega | with_reducible assumption | (unfold rng; omega) | (unfold rng; (repeat' split) <;> omega) | grind)
              · rename_i hc56
                skip
                unfold w_X16_greatestOf_59
                try simp only [forall_eq, rII, rIJ, rIP, rJJ, rJI, rJP, rPP, rPI, rPJ, g1, g2, g3, g4, g5, g6, g7, g8, Nat.reduceEqDiff, Nat.reduceAdd, false_and, and_false, true_and, and_true, reduceIte, nZ0, nZ1]
                refine ⟨ja, by exact hj, hja, ?_⟩
                refine ⟨ja, by exact hj, hja, ?_⟩
                refine ⟨by (first | omega | with_reducible assumption | (unfold rng; omega) | (unfold rng; (repeat' split) <;> omega) | grind), ?_⟩
                have q8 := rσ.2.2.1 ja 5 (v2.toNat); simp only [rgJ] at q8
                refine ⟨by (first | omega | with_reducible assumption | (unfold rng; omega) | (unfold rng; (repeat' split) <;> omega) | grind), ?_⟩
                have q9 := rσ.2.2.1 ja 6 ((gI σ (jx ja 5) v2.toNat).toNat); simp only [rgJ] at q9
                refine s_X16_orderOf g rσ (by (try simp only [rII, rIJ, rIP, rJJ, rJI, rJP, rPP, rPI, rPJ, g1, g2, g3, g4, g5, g6, g7, g8, Nat.reduceEqDiff, Nat.reduceAdd, false_and, and_false, true_and, and_true, reduceIte, nZ0, nZ1]) <;> (first | omega | with_reducible assumption | (unfold rng; omega) | (unfold rng; (repeat' split) <;> omega) | grind)) (by (try simp only [rII, rIJ, rIP, rJJ, rJI, rJP, rPP, rPI, rPJ, g1, g2, g3, g4, g5, g6, g7, g8, Nat.reduceEqDiff, Nat.reduceAdd, false_and, and_false, true_and, and_true, reduceIte, nZ0, nZ1]) <;> (first | omega | with_reducible assumption | (unfold rng; omega) | (unfold rng; (repeat' split) <;> omega) | grind)) (by (try simp only [rII, rIJ, rIP, rJJ, rJI, rJP, rPP, rPI, rPJ, g1, g2, g3, g4, g5, g6, g7, g8, Nat.reduceEqDiff, Nat.reduceAdd, false_and, and_false, true_and, and_true, reduceIte, nZ0, nZ1]) <;> (first | omega | with_reducible assumption | (unfold rng; omega) | (unfold rng; (repeat' split) <;> omega) | grind)) (fun r12 p10 => ?_)
                try simp only [forall_eq, rII, rIJ, rIP, rJJ, rJI, rJP, rPP, rPI, rPJ, g1, g2, g3, g4, g5, g6, g7, g8, Nat.reduceEqDiff, Nat.reduceAdd, false_and, and_false, true_and, and_true, reduceIte, nZ0, nZ1]
                split
                · rename_i hc84
                  skip
                  unfold w_X16_greatestOf_91
                  try simp only [forall_eq, rII, rIJ, rIP, rJJ, rJI, rJP, rPP, rPI, rPJ, g1, g2, g3, g4, g5, g6, g7, g8, Nat.reduceEqDiff, Nat.reduceAdd, false_and, and_false, true_and, and_true, reduceIte, nZ0, nZ1]
                  refine ⟨by (first | omega | with_reducible assumption | (unfold rng; omega) | (unfold rng; (repeat' split) <;> omega) | grind), ?_⟩
                  have q11 := rσ.1 75 (v8.toNat); simp only [rgT] at q11
                  refine ih11 _ _ ?_ ?_
                  · (try simp only [rII, rIJ, rIP, rJJ, rJI, rJP, rPP, rPI, rPJ, g1, g2, g3, g4, g5, g6, g7, g8, Nat.reduceEqDiff, Nat.reduceAdd, false_and, and_false, true_and, and_true, reduceIte, nZ0, nZ1]) <;> (first | omega | with_reducible assumption | (unfold rng; omega) | (unfold rng; (repeat' split) <;> omega) | grind)
                  · (try simp only [rII, rIJ, rIP, rJJ, rJI, rJP, rPP, rPI, rPJ, g1, g2, g3, g4, g5, g6, g7, g8, Nat.reduceEqDiff, Nat.reduceAdd, false_and, and_false, true_and, and_true, reduceIte, nZ0, nZ1]) <;> (first | omega | with_reducible assumption | (unfold rng; omega) | (unfold rng; (repeat' split) <;> omega) | grind)
                · rename_i hc84
                  skip
                  unfold w_X16_greatestOf_87
                  try simp only [forall_eq, rII, rIJ, rIP, rJJ, rJI, rJP, rPP, rPI, rPJ, g1, g2, g3, g4, g5, g6, g7, g8, Nat.reduceEqDiff, Nat.reduceAdd, false_and, and_false, true_and, and_true, reduceIte, nZ0, nZ1]
                  unfold w_X16_greatestOf_91
                  try simp only [forall_eq, rII, rIJ, rIP, rJJ, rJI, rJP, rPP, rPI, rPJ, g1, g2, g3, g4, g5, g6, g7, g8, Nat.reduceEqDiff, Nat.reduceAdd, false_and, and_false, true_and, and_true, reduceIte, nZ0, nZ1]
                  refine ⟨by (first | omega | with_reducible assumption | (unfold rng; omega) | (unfold rng; (repeat' split) <;> omega) | grind), ?_⟩
                  have q12 := rσ.1 75 (v8.toNat); simp only [rgT] at q12
                  refine ih11 _ _ ?_ ?_
                  · (try simp only [rII, rIJ, rIP, rJJ, rJI, rJP, rPP, rPI, rPJ, g1, g2, g3, g4, g5, g6, g7, g8, Nat.reduceEqDiff, Nat.reduceAdd, false_and, and_false, true_and, and_true, reduceIte, nZ0, nZ1]) <;> (first | omega | with_reducible assumption | (unfold rng; omega) | (unfold rng; (repeat' split) <;> omega) | grind)
                  · (try simp only [rII, rIJ, rIP, rJJ, rJI, rJP, rPP, rPI, rPJ, g1, g2, g3, g4, g5, g6, g7, g8, Nat.reduceEqDiff, Nat.reduceAdd, false_and, and_false, true_and, and_true, reduceIte, nZ0, nZ1]) <;> (first | omega | with_reducible assumption | (unfold rng; omega) | (unfold rng; (repeat' split) <;> omega) | grind)
  refine ⟨_, L11 _ _ _ ?_ (Nat.lt_succ_self _)⟩
  · (try simp only [rII, rIJ, rIP, rJJ, rJI, rJP, rPP, rPI, rPJ, g1, g2, g3, g4, g5, g6, g7, g8, Nat.reduceEqDiff, Nat.reduceAdd, false_and, and_false, true_and, and_true, reduceIte, nZ0, nZ1]) <;> (first | omega | with_reducible assumption | (unfold rng; omega) | (unfold rng; (repeat' split) <;> omega) | grind)
set_option maxHeartbeats 2000000 in
theorem s_X16_record {ra : Nat → Nat} {jx : Nat → Nat → Nat} {rm : Nat} {b9 : Nat} {n9 : Nat} {own : Int → Int} {ps : Int → Int} (g : Geo ra jx rm) {σ : Sg} {v1 : Int} {v2 : Int} {v3 : Int64} {v5 : Int64} {v7 : Int64} {v9 : Option Nat} {v10 : Int} {v11 : Int} (rσ : Rg ra jx rm σ) (ha9 : v9 = some b9) (hr9 : rAr ra jx b9 101 n9) (hrec : RecI ra rm σ own ps) (h1 : 0 ≤ v1 ∧ v1 < 64) (h2 : 0 ≤ v2 ∧ v2 ≤ 2) (h5 : v5.toInt ≤ 4611686018427387904) (h10 : 0 ≤ v10 ∧ v10 + 8 ≤ (n9 : Int)) (hn9 : (n9 : Int) ≤ 102416) (h11 : 0 ≤ v11 ∧ v11 < 30000) {Q : Sg → Int → Prop} {X : Sg → String → Prop} (hQ : ∀ (σ' : Sg) (r : Int), Rg ra jx rm σ' → Fr ra jx rm [68, 69, 70, 71, 72, 73, 74, 75, 76, 77, 78] [79, 80] σ σ' → (RecI ra rm σ' (up own r v1) (up ps r (gI σ (ra 78) v1.toNat)) ∧ own r = 64 ∧ (0 ≤ r ∧ r < 4000) ∧ gI σ' (ra 68) r.toNat = v2 ∧ gJ σ' (ra 72) r.toNat = v7 ∧ (∀ a, 0 ≤ a → a ≠ r → gI σ' (ra 68) a.toNat = gI σ (ra 68) a.toNat ∧ gJ σ' (ra 72) a.toNat = gJ σ (ra 72) a.toNat)) → Q σ' r) (hX : ∀ (σ' : Sg) (E : String), Rg ra jx rm σ' → Fr ra jx rm [68, 69, 70, 71, 72, 73, 74, 75, 76, 77, 78] [79, 80] σ σ' → (E = "StreamHouseModel$Broken" ∧ σ' = σ) → X σ' E) : wp_X16_record ra jx rm v1 v2 v3 v5 v7 v9 v10 v11 σ Q X := by
  obtain ⟨g1, g2, g3, g4, g5, g6, g7, g8⟩ := id g
  have fσ : Fr ra jx rm [68, 69, 70, 71, 72, 73, 74, 75, 76, 77, 78] [79, 80] σ σ := Fr.rf
  have hfr := hrec.fre
  have hfb := hrec.bd v1 h1
  have hla := hrec.la h1
  unfold wp_X16_record
  unfold w_X16_record_0
  try simp only [forall_eq, rII, rIJ, rIP, rJJ, rJI, rJP, rPP, rPI, rPJ, g1, g2, g3, g4, g5, g6, g7, g8, Nat.reduceEqDiff, Nat.reduceAdd, false_and, and_false, true_and, and_true, reduceIte, nZ0, nZ1]
  have q1 := rσ.2.1 80; simp only [rgS] at q1
  split
  · rename_i hc7
    skip
    unfold w_X16_record_15
    try simp only [forall_eq, rII, rIJ, rIP, rJJ, rJI, rJP, rPP, rPI, rPJ, g1, g2, g3, g4, g5, g6, g7, g8, Nat.reduceEqDiff, Nat.reduceAdd, false_and, and_false, true_and, and_true, reduceIte, nZ0, nZ1]
    have hf9 := hfr.2 (by assumption)
    have q2 := rσ.2.1 79; simp only [rgS] at q2
    refine ⟨by (first | omega | with_reducible assumption | (unfold rng; omega) | (unfold rng; (repeat' split) <;> omega) | grind), ?_⟩
    have q3 := rσ.1 75 ((gI σ rm 79).toNat); simp only [rgT] at q3
    refine ⟨by (first | omega | with_reducible assumption | (unfold rng; omega) | (unfold rng; (repeat' split) <;> omega) | grind), ?_⟩
    refine ⟨by (first | omega | with_reducible assumption | (unfold rng; omega) | (unfold rng; (repeat' split) <;> omega) | grind), ?_⟩
    refine ⟨by (first | omega | with_reducible assumption | (unfold rng; omega) | (unfold rng; (repeat' split) <;> omega) | grind), ?_⟩
    refine ⟨by (first | omega | with_reducible assumption | (unfold rng; omega) | (unfold rng; (repeat' split) <;> omega) | grind), ?_⟩
    refine ⟨by (first | omega | with_reducible assumption | (unfold rng; omega) | (unfold rng; (repeat' split) <;> omega) | grind), ?_⟩
    have L77 : ∀ (fu77 : Nat) (τ77 : Sg) (v13 : Int), Rg ra jx rm τ77 → Fr ra jx rm [68, 69, 70, 71, 72, 73, 74, 75, 76, 77, 78] [79, 80] σ τ77 → (0 ≤ v13 ∧ v13 ≤ 8 ∧ gI τ77 rm 79 = gI σ (ra 75) (gI σ rm 79).toNat ∧ gI τ77 rm 80 = gI σ rm 80 ∧ (∀ a, gI τ77 (ra 75) a = gI σ (ra 75) a) ∧ (∀ a, gI τ77 (ra 76) a = gI σ (ra 76) a) ∧ (∀ a, gI τ77 (ra 77) a = gI σ (ra 77) a) ∧ (∀ a, gI τ77 (ra 78) a = gI σ (ra 78) a) ∧ (∀ a, gI τ77 (ra 69) a = if a = (gI σ rm 79).toNat then v1 else gI σ (ra 69) a) ∧ (∀ a, gI τ77 (ra 68) a = if a = (gI σ rm 79).toNat then v2 else gI σ (ra 68) a) ∧ (∀ a, gJ τ77 (ra 72) a = if a = (gI σ rm 79).toNat then v7 else gJ σ (ra 72) a)) → ((8 - v13).toNat) < fu77 → wl_X16_record_77 ra jx rm Q X fu77 τ77 v1 v9 v10 v11 (gI σ rm 79) v13 := by
      intro fu77
      induction fu77 with
      | zero => intro τ77 _ _ _ _ h9; omega
      | succ fu77 ih77 =>
        intro τ77 v13 rτ77 fτ77 hi77 hm77
        unfold wl_X16_record_77
        have jτ77 := fτ77.2.2.1
        unfold w_X16_record_77
        try simp only [forall_eq, rII, rIJ, rIP, rJJ, rJI, rJP, rPP, rPI, rPJ, g1, g2, g3, g4, g5, g6, g7, g8, Nat.reduceEqDiff, Nat.reduceAdd, false_and, and_false, true_and, and_true, reduceIte, nZ0, nZ1, fun a k => (jτ77 a k).1, fun a k => (jτ77 a k).2]
        have i1 := hi77.1; have i2 := hi77.2.1; have i3 := hi77.2.2.1; have i4 := hi77.2.2.2.1; have i5 := hi77.2.2.2.2.1; have i6 := hi77.2.2.2.2.2.1; have i7 := hi77.2.2.2.2.2.2.1; have i8 := hi77.2.2.2.2.2.2.2.1; have i9 := hi77.2.2.2.2.2.2.2.2.1; have i10 := hi77.2.2.2.2.2.2.2.2.2.1; have i11 := hi77.2.2.2.2.2.2.2.2.2.2; clear hi77
        split
        · rename_i hc81
          skip
          unfold w_X16_record_111
          try simp only [forall_eq, rII, rIJ, rIP, rJJ, rJI, rJP, rPP, rPI, rPJ, g1, g2, g3, g4, g5, g6, g7, g8, Nat.reduceEqDiff, Nat.reduceAdd, false_and, and_false, true_and, and_true, reduceIte, nZ0, nZ1, fun a k => (jτ77 a k).1, fun a k => (jτ77 a k).2]
          simp only [i3, i4, i5, i6, i7, i8, i9, i10, i11]
          refine ⟨by (first | omega | with_reducible assumption | (unfold rng; omega) | (unfold rng; (repeat' split) <;> omega) | grind), ?_⟩
          refine ⟨by (first | omega | with_reducible assumption | (unfold rng; omega) | (unfold rng; (repeat' split) <;> omega) | grind), ?_⟩
          refine ⟨by (first | omega | with_reducible assumption | (unfold rng; omega) | (unfold rng; (repeat' split) <;> omega) | grind), ?_⟩
          have q4 := rτ77.1 77 (v1.toNat); simp only [rgT] at q4
          split
          · rename_i hc135
            skip
            unfold w_X16_record_149
            try simp only [forall_eq, rII, rIJ, rIP, rJJ, rJI, rJP, rPP, rPI, rPJ, g1, g2, g3, g4, g5, g6, g7, g8, Nat.reduceEqDiff, Nat.reduceAdd, false_and, and_false, true_and, and_true, reduceIte, nZ0, nZ1, fun a k => (jτ77 a k).1, fun a k => (jτ77 a k).2]
            refine ⟨by (first | omega | with_reducible assumption | (unfold rng; omega) | (unfold rng; (repeat' split) <;> omega) | grind), ?_⟩
            refine ⟨by (first | omega | with_reducible assumption | (unfold rng; omega) | (unfold rng; (repeat' split) <;> omega) | grind), ?_⟩
            unfold w_X16_record_162
            try simp only [forall_eq, rII, rIJ, rIP, rJJ, rJI, rJP, rPP, rPI, rPJ, g1, g2, g3, g4, g5, g6, g7, g8, Nat.reduceEqDiff, Nat.reduceAdd, false_and, and_false, true_and, and_true, reduceIte, nZ0, nZ1, fun a k => (jτ77 a k).1, fun a k => (jτ77 a k).2]
            refine ⟨by (first | omega | with_reducible assumption | (unfold rng; omega) | (unfold rng; (repeat' split) <;> omega) | grind), ?_⟩
            refine ⟨by (first | omega | with_reducible assumption | (unfold rng; omega) | (unfold rng; (repeat' split) <;> omega) | grind), ?_⟩
            have q5 := rτ77.1 78 (v1.toNat); simp only [rgT] at q5
            refine ⟨by (first | omega | with_reducible assumption | (unfold rng; omega) | (unfold rng; (repeat' split) <;> omega) | grind), ?_⟩
            refine ⟨by (first | omega | with_reducible assumption | (unfold rng; omega) | (unfold rng; (repeat' split) <;> omega) | grind), ?_⟩
            have q6 := rτ77.2.1 80; simp only [rgS] at q6
            refine ⟨by (first | omega | with_reducible assumption | (unfold rng; omega) | (unfold rng; (repeat' split) <;> omega) | grind), ?_⟩
            refine hQ _ _ ?_ ?_ ?_
            · refine Rg.sI g ?_ (by simp only [rgS]; first | with_reducible exact nZ_rng _ | with_reducible exact nB_rng _ | with_reducible exact wr_rng _ | with_reducible exact i32any _ | (first | omega | with_reducible assumption | (unfold rng; omega) | (unfold rng; (repeat' split) <;> omega) | grind)); refine Rg.aI g ?_ (by simp only [rgT]; first | with_reducible exact nZ_rng _ | with_reducible exact nB_rng _ | with_reducible exact wr_rng _ | with_reducible exact i32any _ | (first | omega | with_reducible assumption | (unfold rng; omega) | (unfold rng; (repeat' split) <;> omega) | grind)); refine Rg.aI g ?_ (by simp only [rgT]; first | with_reducible exact nZ_rng _ | with_reducible exact nB_rng _ | with_reducible exact wr_rng _ | with_reducible exact i32any _ | (first | omega | with_reducible assumption | (unfold rng; omega) | (unfold rng; (repeat' split) <;> omega) | grind)); refine Rg.aI g ?_ (by simp only [rgT]; first | with_reducible exact nZ_rng _ | with_reducible exact nB_rng _ | with_reducible exact wr_rng _ | with_reducible exact i32any _ | (first | omega | with_reducible assumption | (unfold rng; omega) | (unfold rng; (repeat' split) <;> omega) | grind)); refine Rg.aI g ?_ (by simp only [rgT]; first | with_reducible exact nZ_rng _ | with_reducible exact nB_rng _ | with_reducible exact wr_rng _ | with_reducible exact i32any _ | (first | omega | with_reducible assumption | (unfold rng; omega) | (unfold rng; (repeat' split) <;> omega) | grind)); refine Rg.aI g ?_ (by simp only [rgT]; first | with_reducible exact nZ_rng _ | with_reducible exact nB_rng _ | with_reducible exact wr_rng _ | with_reducible exact i32any _ | (first | omega | with_reducible assumption | (unfold rng; omega) | (unfold rng; (repeat' split) <;> omega) | grind)); exact rτ77
            · refine Fr.sI g ?_ (by decide); refine Fr.aI g ?_ (by decide); refine Fr.aI g ?_ (by decide); refine Fr.aI g ?_ (by decide); refine Fr.aI g ?_ (by decide); refine Fr.aI g ?_ (by decide); exact fτ77
            · refine ⟨hrec.app h1 (by assumption) ?_ ?_ ?_ ?_ ?_ ?_ ?_, ?_, ?_, ?_, ?_, ?_⟩ <;> (intros; (try simp only [rII, rIJ, rIP, rJJ, rJI, rJP, rPP, rPI, rPJ, g1, g2, g3, g4, g5, g6, g7, g8, Nat.reduceEqDiff, Nat.reduceAdd, false_and, and_false, true_and, and_true, reduceIte, nZ0, nZ1, fun a k => (jτ77 a k).1, fun a k => (jτ77 a k).2, i3, i4, i5, i6, i7, i8, i9, i10, i11]) <;> (repeat' split) <;> first | omega | assumption | grind)
          · rename_i hc135
            skip
            unfold w_X16_record_138
            try simp only [forall_eq, rII, rIJ, rIP, rJJ, rJI, rJP, rPP, rPI, rPJ, g1, g2, g3, g4, g5, g6, g7, g8, Nat.reduceEqDiff, Nat.reduceAdd, false_and, and_false, true_and, and_true, reduceIte, nZ0, nZ1, fun a k => (jτ77 a k).1, fun a k => (jτ77 a k).2]
            refine ⟨by (first | omega | with_reducible assumption | (unfold rng; omega) | (unfold rng; (repeat' split) <;> omega) | grind), ?_⟩
            unfold w_X16_record_162
            try simp only [forall_eq, rII, rIJ, rIP, rJJ, rJI, rJP, rPP, rPI, rPJ, g1, g2, g3, g4, g5, g6, g7, g8, Nat.reduceEqDiff, Nat.reduceAdd, false_and, and_false, true_and, and_true, reduceIte, nZ0, nZ1, fun a k => (jτ77 a k).1, fun a k => (jτ77 a k).2]
            refine ⟨by (first | omega | with_reducible assumption | (unfold rng; omega) | (unfold rng; (repeat' split) <;> omega) | grind), ?_⟩
            refine ⟨by (first | omega | with_reducible assumption | (unfold rng; omega) | (unfold rng; (repeat' split) <;> omega) | grind), ?_⟩
            have q7 := rτ77.1 78 (v1.toNat); simp only [rgT] at q7
            refine ⟨by (first | omega | with_reducible assumption | (unfold rng; omega) | (unfold rng; (repeat' split) <;> omega) | grind), ?_⟩
            refine ⟨by (first | omega | with_reducible assumption | (unfold rng; omega) | (unfold rng; (repeat' split) <;> omega) | grind), ?_⟩
            have q8 := rτ77.2.1 80; simp only [rgS] at q8
            refine ⟨by (first | omega | with_reducible assumption | (unfold rng; omega) | (unfold rng; (repeat' split) <;> omega) | grind), ?_⟩
            refine hQ _ _ ?_ ?_ ?_
            · refine Rg.sI g ?_ (by simp only [rgS]; first | with_reducible exact nZ_rng _ | with_reducible exact nB_rng _ | with_reducible exact wr_rng _ | with_reducible exact i32any _ | (first | omega | with_reducible assumption | (unfold rng; omega) | (unfold rng; (repeat' split) <;> omega) | grind)); refine Rg.aI g ?_ (by simp only [rgT]; first | with_reducible exact nZ_rng _ | with_reducible exact nB_rng _ | with_reducible exact wr_rng _ | with_reducible exact i32any _ | (first | omega | with_reducible assumption | (unfold rng; omega) | (unfold rng; (repeat' split) <;> omega) | grind)); refine Rg.aI g ?_ (by simp only [rgT]; first | with_reducible exact nZ_rng _ | with_reducible exact nB_rng _ | with_reducible exact wr_rng _ | with_reducible exact i32any _ | (first | omega | with_reducible assumption | (unfold rng; omega) | (unfold rng; (repeat' split) <;> omega) | grind)); refine Rg.aI g ?_ (by simp only [rgT]; first | with_reducible exact nZ_rng _ | with_reducible exact nB_rng _ | with_reducible exact wr_rng _ | with_reducible exact i32any _ | (first | omega | with_reducible assumption | (unfold rng; omega) | (unfold rng; (repeat' split) <;> omega) | grind)); refine Rg.aI g ?_ (by simp only [rgT]; first | with_reducible exact nZ_rng _ | with_reducible exact nB_rng _ | with_reducible exact wr_rng _ | with_reducible exact i32any _ | (first | omega | with_reducible assumption | (unfold rng; omega) | (unfold rng; (repeat' split) <;> omega) | grind)); refine Rg.aI g ?_ (by simp only [rgT]; first | with_reducible exact nZ_rng _ | with_reducible exact nB_rng _ | with_reducible exact wr_rng _ | with_reducible exact i32any _ | (first | omega | with_reducible assumption | (unfold rng; omega) | (unfold rng; (repeat' split) <;> omega) | grind)); exact rτ77
            · refine Fr.sI g ?_ (by decide); refine Fr.aI g ?_ (by decide); refine Fr.aI g ?_ (by decide); refine Fr.aI g ?_ (by decide); refine Fr.aI g ?_ (by decide); refine Fr.aI g ?_ (by decide); exact fτ77
            · refine ⟨hrec.app h1 (by assumption) ?_ ?_ ?_ ?_ ?_ ?_ ?_, ?_, ?_, ?_, ?_, ?_⟩ <;> (intros; (try simp only [rII, rIJ, rIP, rJJ, rJI, rJP, rPP, rPI, rPJ, g1, g2, g3, g4, g5, g6, g7, g8, Nat.reduceEqDiff, Nat.reduceAdd, false_and, and_false, true_and, and_true, reduceIte, nZ0, nZ1, fun a k => (jτ77 a k).1, fun a k => (jτ77 a k).2, i3, i4, i5, i6, i7, i8, i9, i10, i11]) <;> (repeat' split) <;> first | omega | assumption | grind)
        · rename_i hc81
          skip
          unfold w_X16_record_84
          try simp only [forall_eq, rII, rIJ, rIP, rJJ, rJI, rJP, rPP, rPI, rPJ, g1, g2, g3, g4, g5, g6, g7, g8, Nat.reduceEqDiff, Nat.reduceAdd, false_and, and_false, true_and, and_true, reduceIte, nZ0, nZ1, fun a k => (jτ77 a k).1, fun a k => (jτ77 a k).2]
          refine ⟨by (first | omega | with_reducible assumption | (unfold rng; omega) | (unfold rng; (repeat' split) <;> omega) | grind), ?_⟩
          refine ⟨by (first | omega | with_reducible assumption | (unfold rng; omega) | (unfold rng; (repeat' split) <;> omega) | grind), ?_⟩
          refine ⟨by (first | omega | with_reducible assumption | (unfold rng; omega) | (unfold rng; (repeat' split) <;> omega) | grind), ?_⟩
          refine ⟨b9, n9, ha9, hr9, by (first | omega | with_reducible assumption | (unfold rng; omega) | (unfold rng; (repeat' split) <;> omega) | grind), ?_⟩
          refine ⟨by (first | omega | with_reducible assumption | (unfold rng; omega) | (unfold rng; (repeat' split) <;> omega) | grind), ?_⟩
          refine ⟨by (first | omega | with_reducible assumption | (unfold rng; omega) | (unfold rng; (repeat' split) <;> omega) | grind), ?_⟩
          refine ih77 _ _ ?_ ?_ ?_ ?_
          · refine Rg.aJ g ?_ (by simp only [rlT]; first | with_reducible assumption | omega | exact Int64.toInt_le _ | (rw [Int64.toInt_ofInt_of_le (by omega) (by omega)]; omega) | grind); exact rτ77
          · refine Fr.aJ g ?_ (by decide); exact fτ77
          · refine ⟨?_, ?_, ?_, ?_, ?_, ?_, ?_, ?_, ?_, ?_, ?_⟩ <;> (intros; (try simp only [rII, rIJ, rIP, rJJ, rJI, rJP, rPP, rPI, rPJ, g1, g2, g3, g4, g5, g6, g7, g8, Nat.reduceEqDiff, Nat.reduceAdd, false_and, and_false, true_and, and_true, reduceIte, nZ0, nZ1, fun a k => (jτ77 a k).1, fun a k => (jτ77 a k).2]) <;> (repeat' split) <;> first | omega | assumption | grind)
          · (try simp only [rII, rIJ, rIP, rJJ, rJI, rJP, rPP, rPI, rPJ, g1, g2, g3, g4, g5, g6, g7, g8, Nat.reduceEqDiff, Nat.reduceAdd, false_and, and_false, true_and, and_true, reduceIte, nZ0, nZ1, fun a k => (jτ77 a k).1, fun a k => (jτ77 a k).2]) <;> (first | omega | with_reducible assumption | (unfold rng; omega) | (unfold rng; (repeat' split) <;> omega) | grind)
    refine ⟨_, L77 _ _ _ ?_ ?_ ?_ (Nat.lt_succ_self _)⟩
    · refine Rg.aJ g ?_ (by simp only [rlT]; first | with_reducible assumption | omega | exact Int64.toInt_le _ | (rw [Int64.toInt_ofInt_of_le (by omega) (by omega)]; omega) | grind); refine Rg.aJ g ?_ (by simp only [rlT]; first | with_reducible assumption | omega | exact Int64.toInt_le _ | (rw [Int64.toInt_ofInt_of_le (by omega) (by omega)]; omega) | grind); refine Rg.aJ g ?_ (by simp only [rlT]; first | with_reducible assumption | omega | exact Int64.toInt_le _ | (rw [Int64.toInt_ofInt_of_le (by omega) (by omega)]; omega) | grind); refine Rg.aI g ?_ (by simp only [rgT]; first | with_reducible exact nZ_rng _ | with_reducible exact nB_rng _ | with_reducible exact wr_rng _ | with_reducible exact i32any _ | (first | omega | with_reducible assumption | (unfold rng; omega) | (unfold rng; (repeat' split) <;> omega) | grind)); refine Rg.aI g ?_ (by simp only [rgT]; first | with_reducible exact nZ_rng _ | with_reducible exact nB_rng _ | with_reducible exact wr_rng _ | with_reducible exact i32any _ | (first | omega | with_reducible assumption | (unfold rng; omega) | (unfold rng; (repeat' split) <;> omega) | grind)); refine Rg.sI g ?_ (by simp only [rgS]; first | with_reducible exact nZ_rng _ | with_reducible exact nB_rng _ | with_reducible exact wr_rng _ | with_reducible exact i32any _ | (first | omega | with_reducible assumption | (unfold rng; omega) | (unfold rng; (repeat' split) <;> omega) | grind)); exact rσ
    · refine Fr.aJ g ?_ (by decide); refine Fr.aJ g ?_ (by decide); refine Fr.aJ g ?_ (by decide); refine Fr.aI g ?_ (by decide); refine Fr.aI g ?_ (by decide); refine Fr.sI g ?_ (by decide); exact fσ
    · refine ⟨?_, ?_, ?_, ?_, ?_, ?_, ?_, ?_, ?_, ?_, ?_⟩ <;> (intros; (try simp only [rII, rIJ, rIP, rJJ, rJI, rJP, rPP, rPI, rPJ, g1, g2, g3, g4, g5, g6, g7, g8, Nat.reduceEqDiff, Nat.reduceAdd, false_and, and_false, true_and, and_true, reduceIte, nZ0, nZ1]) <;> (repeat' split) <;> first | omega | assumption | grind)
  · rename_i hc7
    skip
    unfold w_X16_record_10
    try simp only [forall_eq, rII, rIJ, rIP, rJJ, rJI, rJP, rPP, rPI, rPJ, g1, g2, g3, g4, g5, g6, g7, g8, Nat.reduceEqDiff, Nat.reduceAdd, false_and, and_false, true_and, and_true, reduceIte, nZ0, nZ1]
    refine ⟨by simp, ?_⟩
    refine hX _ _ ?_ ?_ ?_
    · exact rσ
    · exact fσ
    · exact ⟨rfl, rfl⟩
set_option maxHeartbeats 2000000 in
theorem s_X16_drop {ra : Nat → Nat} {jx : Nat → Nat → Nat} {rm : Nat} {own : Int → Int} {ps : Int → Int} {T : Int} (g : Geo ra jx rm) {σ : Sg} {v1 : Int} (rσ : Rg ra jx rm σ) (hrec : RecI ra rm σ own ps) (h1 : 0 ≤ T ∧ T < 64) (ho : own v1 = T) {Q : Sg → Unit → Prop} {X : Sg → String → Prop} (hQ : ∀ (σ' : Sg) (r : Unit), Rg ra jx rm σ' → Fr ra jx rm [75, 76, 77, 78] [79, 80] σ σ' → (RecI ra rm σ' (up own v1 64) (up (fun a => if own a = T ∧ ps v1 < ps a then ps a - 1 else ps a) v1 (4000 - gI σ rm 80)) ∧ gI σ' (ra 78) T.toNat = gI σ (ra 78) T.toNat - 1) → Q σ' r) : wp_X16_drop ra jx rm v1 σ Q X := by
  obtain ⟨g1, g2, g3, g4, g5, g6, g7, g8⟩ := id g
  have fσ : Fr ra jx rm [75, 76, 77, 78] [79, 80] σ σ := Fr.rf
  have hn1 := hrec.nd ho h1
  have ht1 := hrec.2.2.2.1 v1 (by omega)
  have hfb := hrec.bd T h1
  have hla := hrec.la h1
  have hhd := hrec.hd0 ho h1
  have hfr := hrec.fre
  rw [ho] at ht1
  unfold wp_X16_drop
  unfold w_X16_drop_0
  try simp only [forall_eq, rII, rIJ, rIP, rJJ, rJI, rJP, rPP, rPI, rPJ, g1, g2, g3, g4, g5, g6, g7, g8, Nat.reduceEqDiff, Nat.reduceAdd, false_and, and_false, true_and, and_true, reduceIte, nZ0, nZ1, ht1]
  refine ⟨by (first | omega | with_reducible assumption | (unfold rng; omega) | (unfold rng; (repeat' split) <;> omega) | grind), ?_⟩
  have q1 := rσ.1 69 (v1.toNat); simp only [rgT, ht1] at q1
  refine ⟨by (first | omega | with_reducible assumption | (unfold rng; omega) | (unfold rng; (repeat' split) <;> omega) | grind), ?_⟩
  have q2 := rσ.1 76 (T.toNat); simp only [rgT, ht1] at q2
  have L17 : ∀ (fu17 : Nat) (v3 : Int) (v4 : Int), (own v4 = T ∧ ps v4 ≤ ps v1 ∧ (v3 = -1 → ps v4 = 0) ∧ (v3 ≠ -1 → own v3 = T ∧ ps v3 + 1 = ps v4 ∧ 0 ≤ v3 ∧ v3 < 4000)) → ((ps v1 - ps v4).toNat) < fu17 → wl_X16_drop_17 ra jx rm Q X fu17 σ v1 T v3 v4 := by
    intro fu17
    induction fu17 with
    | zero => intro  _ _ _ h9; omega
    | succ fu17 ih17 =>
      intro v3 v4 hi17 hm17
      unfold wl_X16_drop_17
      unfold w_X16_drop_17
      try simp only [forall_eq, rII, rIJ, rIP, rJJ, rJI, rJP, rPP, rPI, rPJ, g1, g2, g3, g4, g5, g6, g7, g8, Nat.reduceEqDiff, Nat.reduceAdd, false_and, and_false, true_and, and_true, reduceIte, nZ0, nZ1, ht1]
      have n4 := hrec.nd hi17.1 h1
      have j4 := hrec.1.2.1 v4 v1 (by show 0 ≤ own v4 ∧ own v4 < 64; omega) (by omega)
      split
      · rename_i hc20
        skip
        unfold w_X16_drop_38
        try simp only [forall_eq, rII, rIJ, rIP, rJJ, rJI, rJP, rPP, rPI, rPJ, g1, g2, g3, g4, g5, g6, g7, g8, Nat.reduceEqDiff, Nat.reduceAdd, false_and, and_false, true_and, and_true, reduceIte, nZ0, nZ1, ht1]
        have e4 : v4 = v1 := by assumption
        rw [e4] at hi17 n4
        split
        · rename_i hc40
          skip
          unfold w_X16_drop_58
          try simp only [forall_eq, rII, rIJ, rIP, rJJ, rJI, rJP, rPP, rPI, rPJ, g1, g2, g3, g4, g5, g6, g7, g8, Nat.reduceEqDiff, Nat.reduceAdd, false_and, and_false, true_and, and_true, reduceIte, nZ0, nZ1, ht1]
          refine ⟨by (first | omega | with_reducible assumption | (unfold rng; omega) | (unfold rng; (repeat' split) <;> omega) | grind), ?_⟩
          refine ⟨by (first | omega | with_reducible assumption | (unfold rng; omega) | (unfold rng; (repeat' split) <;> omega) | grind), ?_⟩
          have q3 := rσ.1 75 (v1.toNat); simp only [rgT, ht1] at q3
          unfold w_X16_drop_70
          try simp only [forall_eq, rII, rIJ, rIP, rJJ, rJI, rJP, rPP, rPI, rPJ, g1, g2, g3, g4, g5, g6, g7, g8, Nat.reduceEqDiff, Nat.reduceAdd, false_and, and_false, true_and, and_true, reduceIte, nZ0, nZ1, ht1]
          refine ⟨by (first | omega | with_reducible assumption | (unfold rng; omega) | (unfold rng; (repeat' split) <;> omega) | grind), ?_⟩
          have q4 := rσ.1 77 (T.toNat); simp only [rgT, ht1] at q4
          split
          · rename_i hc82
            skip
            unfold w_X16_drop_89
            try simp only [forall_eq, rII, rIJ, rIP, rJJ, rJI, rJP, rPP, rPI, rPJ, g1, g2, g3, g4, g5, g6, g7, g8, Nat.reduceEqDiff, Nat.reduceAdd, false_and, and_false, true_and, and_true, reduceIte, nZ0, nZ1, ht1]
            refine ⟨by (first | omega | with_reducible assumption | (unfold rng; omega) | (unfold rng; (repeat' split) <;> omega) | grind), ?_⟩
            unfold w_X16_drop_95
            try simp only [forall_eq, rII, rIJ, rIP, rJJ, rJI, rJP, rPP, rPI, rPJ, g1, g2, g3, g4, g5, g6, g7, g8, Nat.reduceEqDiff, Nat.reduceAdd, false_and, and_false, true_and, and_true, reduceIte, nZ0, nZ1, ht1]
            refine ⟨by (first | omega | with_reducible assumption | (unfold rng; omega) | (unfold rng; (repeat' split) <;> omega) | grind), ?_⟩
            refine ⟨by (first | omega | with_reducible assumption | (unfold rng; omega) | (unfold rng; (repeat' split) <;> omega) | grind), ?_⟩
            have q5 := rσ.2.1 79; simp only [rgS, ht1] at q5
            refine ⟨by (first | omega | with_reducible assumption | (unfold rng; omega) | (unfold rng; (repeat' split) <;> omega) | grind), ?_⟩
            have q6 := rσ.1 78 (T.toNat); simp only [rgT, ht1] at q6
            refine ⟨by (first | omega | with_reducible assumption | (unfold rng; omega) | (unfold rng; (repeat' split) <;> omega) | grind), ?_⟩
            refine ⟨by (first | omega | with_reducible assumption | (unfold rng; omega) | (unfold rng; (repeat' split) <;> omega) | grind), ?_⟩
            have q7 := rσ.2.1 80; simp only [rgS, ht1] at q7
            refine ⟨by (first | omega | with_reducible assumption | (unfold rng; omega) | (unfold rng; (repeat' split) <;> omega) | grind), ?_⟩
            refine hQ _ _ ?_ ?_ ?_
            · refine Rg.sI g ?_ (by simp only [rgS]; first | with_reducible exact nZ_rng _ | with_reducible exact nB_rng _ | with_reducible exact wr_rng _ | with_reducible exact i32any _ | (first | omega | with_reducible assumption | (unfold rng; omega) | (unfold rng; (repeat' split) <;> omega) | grind)); refine Rg.aI g ?_ (by simp only [rgT]; first | with_reducible exact nZ_rng _ | with_reducible exact nB_rng _ | with_reducible exact wr_rng _ | with_reducible exact i32any _ | (first | omega | with_reducible assumption | (unfold rng; omega) | (unfold rng; (repeat' split) <;> omega) | grind)); refine Rg.sI g ?_ (by simp only [rgS]; first | with_reducible exact nZ_rng _ | with_reducible exact nB_rng _ | with_reducible exact wr_rng _ | with_reducible exact i32any _ | (first | omega | with_reducible assumption | (unfold rng; omega) | (unfold rng; (repeat' split) <;> omega) | grind)); refine Rg.aI g ?_ (by simp only [rgT]; first | with_reducible exact nZ_rng _ | with_reducible exact nB_rng _ | with_reducible exact wr_rng _ | with_reducible exact i32any _ | (first | omega | with_reducible assumption | (unfold rng; omega) | (unfold rng; (repeat' split) <;> omega) | grind)); refine Rg.aI g ?_ (by simp only [rgT]; first | with_reducible exact nZ_rng _ | with_reducible exact nB_rng _ | with_reducible exact wr_rng _ | with_reducible exact i32any _ | (first | omega | with_reducible assumption | (unfold rng; omega) | (unfold rng; (repeat' split) <;> omega) | grind)); refine Rg.aI g ?_ (by simp only [rgT]; first | with_reducible exact nZ_rng _ | with_reducible exact nB_rng _ | with_reducible exact wr_rng _ | with_reducible exact i32any _ | (first | omega | with_reducible assumption | (unfold rng; omega) | (unfold rng; (repeat' split) <;> omega) | grind)); exact rσ
            · refine Fr.sI g ?_ (by decide); refine Fr.aI g ?_ (by decide); refine Fr.sI g ?_ (by decide); refine Fr.aI g ?_ (by decide); refine Fr.aI g ?_ (by decide); refine Fr.aI g ?_ (by decide); exact fσ
            · refine ⟨hrec.cut h1 ho hi17.2.2.1 (fun q => ⟨(hi17.2.2.2 q).1, (hi17.2.2.2 q).2.1⟩) ?_ ?_ ?_ ?_ ?_ ?_ ?_ ?_, ?_⟩ <;> (intros; (try simp only [rII, rIJ, rIP, rJJ, rJI, rJP, rPP, rPI, rPJ, g1, g2, g3, g4, g5, g6, g7, g8, Nat.reduceEqDiff, Nat.reduceAdd, false_and, and_false, true_and, and_true, reduceIte, nZ0, nZ1, ht1]) <;> (repeat' split) <;> first | omega | grind)
          · rename_i hc82
            skip
            unfold w_X16_drop_85
            try simp only [forall_eq, rII, rIJ, rIP, rJJ, rJI, rJP, rPP, rPI, rPJ, g1, g2, g3, g4, g5, g6, g7, g8, Nat.reduceEqDiff, Nat.reduceAdd, false_and, and_false, true_and, and_true, reduceIte, nZ0, nZ1, ht1]
            unfold w_X16_drop_95
            try simp only [forall_eq, rII, rIJ, rIP, rJJ, rJI, rJP, rPP, rPI, rPJ, g1, g2, g3, g4, g5, g6, g7, g8, Nat.reduceEqDiff, Nat.reduceAdd, false_and, and_false, true_and, and_true, reduceIte, nZ0, nZ1, ht1]
            refine ⟨by (first | omega | with_reducible assumption | (unfold rng; omega) | (unfold rng; (repeat' split) <;> omega) | grind), ?_⟩
            refine ⟨by (first | omega | with_reducible assumption | (unfold rng; omega) | (unfold rng; (repeat' split) <;> omega) | grind), ?_⟩
            have q8 := rσ.2.1 79; simp only [rgS, ht1] at q8
            refine ⟨by (first | omega | with_reducible assumption | (unfold rng; omega) | (unfold rng; (repeat' split) <;> omega) | grind), ?_⟩
            have q9 := rσ.1 78 (T.toNat); simp only [rgT, ht1] at q9
            refine ⟨by (first | omega | with_reducible assumption | (unfold rng; omega) | (unfold rng; (repeat' split) <;> omega) | grind), ?_⟩
            refine ⟨by (first | omega | with_reducible assumption | (unfold rng; omega) | (unfold rng; (repeat' split) <;> omega) | grind), ?_⟩
            have q10 := rσ.2.1 80; simp only [rgS, ht1] at q10
            refine ⟨by (first | omega | with_reducible assumption | (unfold rng; omega) | (unfold rng; (repeat' split) <;> omega) | grind), ?_⟩
            refine hQ _ _ ?_ ?_ ?_
            · refine Rg.sI g ?_ (by simp only [rgS]; first | with_reducible exact nZ_rng _ | with_reducible exact nB_rng _ | with_reducible exact wr_rng _ | with_reducible exact i32any _ | (first | omega | with_reducible assumption | (unfold rng; omega) | (unfold rng; (repeat' split) <;> omega) | grind)); refine Rg.aI g ?_ (by simp only [rgT]; first | with_reducible exact nZ_rng _ | with_reducible exact nB_rng _ | with_reducible exact wr_rng _ | with_reducible exact i32any _ | (first | omega | with_reducible assumption | (unfold rng; omega) | (unfold rng; (repeat' split) <;> omega) | grind)); refine Rg.sI g ?_ (by simp only [rgS]; first | with_reducible exact nZ_rng _ | with_reducible exact nB_rng _ | with_reducible exact wr_rng _ | with_reducible exact i32any _ | (first | omega | with_reducible assumption | (unfold rng; omega) | (unfold rng; (repeat' split) <;> omega) | grind)); refine Rg.aI g ?_ (by simp only [rgT]; first | with_reducible exact nZ_rng _ | with_reducible exact nB_rng _ | with_reducible exact wr_rng _ | with_reducible exact i32any _ | (first | omega | with_reducible assumption | (unfold rng; omega) | (unfold rng; (repeat' split) <;> omega) | grind)); refine Rg.aI g ?_ (by simp only [rgT]; first | with_reducible exact nZ_rng _ | with_reducible exact nB_rng _ | with_reducible exact wr_rng _ | with_reducible exact i32any _ | (first | omega | with_reducible assumption | (unfold rng; omega) | (unfold rng; (repeat' split) <;> omega) | grind)); refine Rg.aI g ?_ (by simp only [rgT]; first | with_reducible exact nZ_rng _ | with_reducible exact nB_rng _ | with_reducible exact wr_rng _ | with_reducible exact i32any _ | (first | omega | with_reducible assumption | (unfold rng; omega) | (unfold rng; (repeat' split) <;> omega) | grind)); exact rσ
            · refine Fr.sI g ?_ (by decide); refine Fr.aI g ?_ (by decide); refine Fr.sI g ?_ (by decide); refine Fr.aI g ?_ (by decide); refine Fr.aI g ?_ (by decide); refine Fr.aI g ?_ (by decide); exact fσ
            · refine ⟨hrec.cut h1 ho hi17.2.2.1 (fun q => ⟨(hi17.2.2.2 q).1, (hi17.2.2.2 q).2.1⟩) ?_ ?_ ?_ ?_ ?_ ?_ ?_ ?_, ?_⟩ <;> (intros; (try simp only [rII, rIJ, rIP, rJJ, rJI, rJP, rPP, rPI, rPJ, g1, g2, g3, g4, g5, g6, g7, g8, Nat.reduceEqDiff, Nat.reduceAdd, false_and, and_false, true_and, and_true, reduceIte, nZ0, nZ1, ht1]) <;> (repeat' split) <;> first | omega | grind)
        · rename_i hc40
          skip
          unfold w_X16_drop_43
          try simp only [forall_eq, rII, rIJ, rIP, rJJ, rJI, rJP, rPP, rPI, rPJ, g1, g2, g3, g4, g5, g6, g7, g8, Nat.reduceEqDiff, Nat.reduceAdd, false_and, and_false, true_and, and_true, reduceIte, nZ0, nZ1, ht1]
          refine ⟨by (first | omega | with_reducible assumption | (unfold rng; omega) | (unfold rng; (repeat' split) <;> omega) | grind), ?_⟩
          refine ⟨by (first | omega | with_reducible assumption | (unfold rng; omega) | (unfold rng; (repeat' split) <;> omega) | grind), ?_⟩
          have q11 := rσ.1 75 (v1.toNat); simp only [rgT, ht1] at q11
          unfold w_X16_drop_70
          try simp only [forall_eq, rII, rIJ, rIP, rJJ, rJI, rJP, rPP, rPI, rPJ, g1, g2, g3, g4, g5, g6, g7, g8, Nat.reduceEqDiff, Nat.reduceAdd, false_and, and_false, true_and, and_true, reduceIte, nZ0, nZ1, ht1]
          refine ⟨by (first | omega | with_reducible assumption | (unfold rng; omega) | (unfold rng; (repeat' split) <;> omega) | grind), ?_⟩
          have q12 := rσ.1 77 (T.toNat); simp only [rgT, ht1] at q12
          split
          · rename_i hc82
            skip
            unfold w_X16_drop_89
            try simp only [forall_eq, rII, rIJ, rIP, rJJ, rJI, rJP, rPP, rPI, rPJ, g1, g2, g3, g4, g5, g6, g7, g8, Nat.reduceEqDiff, Nat.reduceAdd, false_and, and_false, true_and, and_true, reduceIte, nZ0, nZ1, ht1]
            refine ⟨by (first | omega | with_reducible assumption | (unfold rng; omega) | (unfold rng; (repeat' split) <;> omega) | grind), ?_⟩
            unfold w_X16_drop_95
            try simp only [forall_eq, rII, rIJ, rIP, rJJ, rJI, rJP, rPP, rPI, rPJ, g1, g2, g3, g4, g5, g6, g7, g8, Nat.reduceEqDiff, Nat.reduceAdd, false_and, and_false, true_and, and_true, reduceIte, nZ0, nZ1, ht1]
            refine ⟨by (first | omega | with_reducible assumption | (unfold rng; omega) | (unfold rng; (repeat' split) <;> omega) | grind), ?_⟩
            refine ⟨by (first | omega | with_reducible assumption | (unfold rng; omega) | (unfold rng; (repeat' split) <;> omega) | grind), ?_⟩
            have q13 := rσ.2.1 79; simp only [rgS, ht1] at q13
            refine ⟨by (first | omega | with_reducible assumption | (unfold rng; omega) | (unfold rng; (repeat' split) <;> omega) | grind), ?_⟩
            have q14 := rσ.1 78 (T.toNat); simp only [rgT, ht1] at q14
            refine ⟨by (first | omega | with_reducible assumption | (unfold rng; omega) | (unfold rng; (repeat' split) <;> omega) | grind), ?_⟩
            refine ⟨by (first | omega | with_reducible assumption | (unfold rng; omega) | (unfold rng; (repeat' split) <;> omega) | grind), ?_⟩
            have q15 := rσ.2.1 80; simp only [rgS, ht1] at q15
            refine ⟨by (first | omega | with_reducible assumption | (unfold rng; omega) | (unfold rng; (repeat' split) <;> omega) | grind), ?_⟩
            refine hQ _ _ ?_ ?_ ?_
            · refine Rg.sI g ?_ (by simp only [rgS]; first | with_reducible exact nZ_rng _ | with_reducible exact nB_rng _ | with_reducible exact wr_rng _ | with_reducible exact i32any _ | (first | omega | with_reducible assumption | (unfold rng; omega) | (unfold rng; (repeat' split) <;> omega) | grind)); refine Rg.aI g ?_ (by simp only [rgT]; first | with_reducible exact nZ_rng _ | with_reducible exact nB_rng _ | with_reducible exact wr_rng _ | with_reducible exact i32any _ | (first | omega | with_reducible assumption | (unfold rng; omega) | (unfold rng; (repeat' split) <;> omega) | grind)); refine Rg.sI g ?_ (by simp only [rgS]; first | with_reducible exact nZ_rng _ | with_reducible exact nB_rng _ | with_reducible exact wr_rng _ | with_reducible exact i32any _ | (first | omega | with_reducible assumption | (unfold rng; omega) | (unfold rng; (repeat' split) <;> omega) | grind)); refine Rg.aI g ?_ (by simp only [rgT]; first | with_reducible exact nZ_rng _ | with_reducible exact nB_rng _ | with_reducible exact wr_rng _ | with_reducible exact i32any _ | (first | omega | with_reducible assumption | (unfold rng; omega) | (unfold rng; (repeat' split) <;> omega) | grind)); refine Rg.aI g ?_ (by simp only [rgT]; first | with_reducible exact nZ_rng _ | with_reducible exact nB_rng _ | with_reducible exact wr_rng _ | with_reducible exact i32any _ | (first | omega | with_reducible assumption | (unfold rng; omega) | (unfold rng; (repeat' split) <;> omega) | grind)); refine Rg.aI g ?_ (by simp only [rgT]; first | with_reducible exact nZ_rng _ | with_reducible exact nB_rng _ | with_reducible exact wr_rng _ | with_reducible exact i32any _ | (first | omega | with_reducible assumption | (unfold rng; omega) | (unfold rng; (repeat' split) <;> omega) | grind)); exact rσ
            · refine Fr.sI g ?_ (by decide); refine Fr.aI g ?_ (by decide); refine Fr.sI g ?_ (by decide); refine Fr.aI g ?_ (by decide); refine Fr.aI g ?_ (by decide); refine Fr.aI g ?_ (by decide); exact fσ
            · refine ⟨hrec.cut h1 ho hi17.2.2.1 (fun q => ⟨(hi17.2.2.2 q).1, (hi17.2.2.2 q).2.1⟩) ?_ ?_ ?_ ?_ ?_ ?_ ?_ ?_, ?_⟩ <;> (intros; (try simp only [rII, rIJ, rIP, rJJ, rJI, rJP, rPP, rPI, rPJ, g1, g2, g3, g4, g5, g6, g7, g8, Nat.reduceEqDiff, Nat.reduceAdd, false_and, and_false, true_and, and_true, reduceIte, nZ0, nZ1, ht1]) <;> (repeat' split) <;> first | omega | grind)
          · rename_i hc82
            skip
            unfold w_X16_drop_85
            try simp only [forall_eq, rII, rIJ, rIP, rJJ, rJI, rJP, rPP, rPI, rPJ, g1, g2, g3, g4, g5, g6, g7, g8, Nat.reduceEqDiff, Nat.reduceAdd, false_and, and_false, true_and, and_true, reduceIte, nZ0, nZ1, ht1]
            unfold w_X16_drop_95
            try simp only [forall_eq, rII, rIJ, rIP, rJJ, rJI, rJP, rPP, rPI, rPJ, g1, g2, g3, g4, g5, g6, g7, g8, Nat.reduceEqDiff, Nat.reduceAdd, false_and, and_false, true_and, and_true, reduceIte, nZ0, nZ1, ht1]
            refine ⟨by (first | omega | with_reducible assumption | (unfold rng; omega) | (unfold rng; (repeat' split) <;> omega) | grind), ?_⟩
            refine ⟨by (first | omega | with_reducible assumption | (unfold rng; omega) | (unfold rng; (repeat' split) <;> omega) | grind), ?_⟩
            have q16 := rσ.2.1 79; simp only [rgS, ht1] at q16
            refine ⟨by (first | omega | with_reducible assumption | (unfold rng; omega) | (unfold rng; (repeat' split) <;> omega) | grind), ?_⟩
            have q17 := rσ.1 78 (T.toNat); simp only [rgT, ht1] at q17
            refine ⟨by (first | omega | with_reducible assumption | (unfold rng; omega) | (unfold rng; (repeat' split) <;> omega) | grind), ?_⟩
            refine ⟨by (first | omega | with_reducible assumption | (unfold rng; omega) | (unfold rng; (repeat' split) <;> omega) | grind), ?_⟩
            have q18 := rσ.2.1 80; simp only [rgS, ht1] at q18
            refine ⟨by (first | omega | with_reducible assumption | (unfold rng; omega) | (unfold rng; (repeat' split) <;> omega) | grind), ?_⟩
            refine hQ _ _ ?_ ?_ ?_
            · refine Rg.sI g ?_ (by simp only [rgS]; first | with_reducible exact nZ_rng _ | with_reducible exact nB_rng _ | with_reducible exact wr_rng _ | with_reducible exact i32any _ | (first | omega | with_reducible assumption | (unfold rng; omega) | (unfold rng; (repeat' split) <;> omega) | grind)); refine Rg.aI g ?_ (by simp only [rgT]; first | with_reducible exact nZ_rng _ | with_reducible exact nB_rng _ | with_reducible exact wr_rng _ | with_reducible exact i32any _ | (first | omega | with_reducible assumption | (unfold rng; omega) | (unfold rng; (repeat' split) <;> omega) | grind)); refine Rg.sI g ?_ (by simp only [rgS]; first | with_reducible exact nZ_rng _ | with_reducible exact nB_rng _ | with_reducible exact wr_rng _ | with_reducible exact i32any _ | (first | omega | with_reducible assumption | (unfold rng; omega) | (unfold rng; (repeat' split) <;> omega) | grind)); refine Rg.aI g ?_ (by simp only [rgT]; first | with_reducible exact nZ_rng _ | with_reducible exact nB_rng _ | with_reducible exact wr_rng _ | with_reducible exact i32any _ | (first | omega | with_reducible assumption | (unfold rng; omega) | (unfold rng; (repeat' split) <;> omega) | grind)); refine Rg.aI g ?_ (by simp only [rgT]; first | with_reducible exact nZ_rng _ | with_reducible exact nB_rng _ | with_reducible exact wr_rng _ | with_reducible exact i32any _ | (first | omega | with_reducible assumption | (unfold rng; omega) | (unfold rng; (repeat' split) <;> omega) | grind)); refine Rg.aI g ?_ (by simp only [rgT]; first | with_reducible exact nZ_rng _ | with_reducible exact nB_rng _ | with_reducible exact wr_rng _ | with_reducible exact i32any _ | (first | omega | with_reducible assumption | (unfold rng; omega) | (unfold rng; (repeat' split) <;> omega) | grind)); exact rσ
            · refine Fr.sI g ?_ (by decide); refine Fr.aI g ?_ (by decide); refine Fr.sI g ?_ (by decide); refine Fr.aI g ?_ (by decide); refine Fr.aI g ?_ (by decide); refine Fr.aI g ?_ (by decide); exact fσ
            · refine ⟨hrec.cut h1 ho hi17.2.2.1 (fun q => ⟨(hi17.2.2.2 q).1, (hi17.2.2.2 q).2.1⟩) ?_ ?_ ?_ ?_ ?_ ?_ ?_ ?_, ?_⟩ <;> (intros; (try simp only [rII, rIJ, rIP, rJJ, rJI, rJP, rPP, rPI, rPJ, g1, g2, g3, g4, g5, g6, g7, g8, Nat.reduceEqDiff, Nat.reduceAdd, false_and, and_false, true_and, and_true, reduceIte, nZ0, nZ1, ht1]) <;> (repeat' split) <;> first | omega | grind)
      · rename_i hc20
        skip
        unfold w_X16_drop_23
        try simp only [forall_eq, rII, rIJ, rIP, rJJ, rJI, rJP, rPP, rPI, rPJ, g1, g2, g3, g4, g5, g6, g7, g8, Nat.reduceEqDiff, Nat.reduceAdd, false_and, and_false, true_and, and_true, reduceIte, nZ0, nZ1, ht1]
        refine ⟨by (first | omega | with_reducible assumption | (unfold rng; omega) | (unfold rng; (repeat' split) <;> omega) | grind), ?_⟩
        have q19 := rσ.1 75 (v4.toNat); simp only [rgT, ht1] at q19
        refine ih17 _ _ ?_ ?_
        · (try simp only [ht1]) <;> (first | omega | with_reducible assumption | (unfold rng; omega) | (unfold rng; (repeat' split) <;> omega) | grind)
        · (try simp only [rII, rIJ, rIP, rJJ, rJI, rJP, rPP, rPI, rPJ, g1, g2, g3, g4, g5, g6, g7, g8, Nat.reduceEqDiff, Nat.reduceAdd, false_and, and_false, true_and, and_true, reduceIte, nZ0, nZ1, ht1]) <;> (first | omega | with_reducible assumption | (unfold rng; omega) | (unfold rng; (repeat' split) <;> omega) | grind)
  refine ⟨_, L17 _ _ _ ?_ (Nat.lt_succ_self _)⟩
  · (try simp only [ht1]) <;> (first | omega | with_reducible assumption | (unfold rng; omega) | (unfold rng; (repeat' split) <;> omega) | grind)

set_option maxHeartbeats 2000000 in
theorem s_X16_box {ra : Nat → Nat} {jx : Nat → Nat → Nat} {rm : Nat} {b6 : Nat} {n6 : Nat} (g : Geo ra jx rm) {σ : Sg} {v1 : Int} {v2 : Int} {v3 : Int} {v4 : Int64} {v6 : Option Nat} {v7 : Int} {v8 : Int} (rσ : Rg ra jx rm σ) (ha6 : v6 = some b6) (hr6 : rAr ra jx b6 101 n6) (hth : ThE ra rm σ) (h1 : 0 ≤ v1 ∧ v1 < 64) (h2 : 0 ≤ v2 ∧ v2 < 1100) (h3 : 0 ≤ v3 ∧ v3 ≤ 2) (h4 : v4.toInt ≤ 4611686018427387904) (h7 : 0 ≤ v7 ∧ v7 + 8 ≤ (n6 : Int)) (hn6 : (n6 : Int) ≤ 102416) (h8 : 0 ≤ v8 ∧ v8 < 30000) {Q : Sg → Unit → Prop} {X : Sg → String → Prop} (hQ : ∀ (σ' : Sg) (r : Unit), Rg ra jx rm σ' → Fr ra jx rm [46, 47, 48, 60, 61, 62, 63, 64, 65] [66, 67] σ σ' → (ThE ra rm σ') → Q σ' r) (hX : ∀ (σ' : Sg) (E : String), Rg ra jx rm σ' → Fr ra jx rm [46, 47, 48, 60, 61, 62, 63, 64, 65] [66, 67] σ σ' → (E = "StreamHouseModel$Broken" ∧ ThE ra rm σ') → X σ' E) : wp_X16_box ra jx rm v1 v2 v3 v4 v6 v7 v8 σ Q X := by
  obtain ⟨g1, g2, g3, g4, g5, g6, g7, g8⟩ := id g
  have fσ : Fr ra jx rm [46, 47, 48, 60, 61, 62, 63, 64, 65] [66, 67] σ σ := Fr.rf
  obtain ⟨own, ps, bm, F, hti⟩ := id hth
  have hbx := rσ.2.1 67; simp only [rgS] at hbx
  have hbd := hti.bd (fun i => (rσ.1 54 i).2)
  have hbd1 := hbd.2.2 v1 h1
  have hbd0 := hbd.1; have hbdF := hbd.2.1; clear hbd
  have hhd := hti.hd (by omega)
  have hla := hti.la h1
  unfold wp_X16_box
  unfold w_X16_box_0
  try simp only [forall_eq, rII, rIJ, rIP, rJJ, rJI, rJP, rPP, rPI, rPJ, g1, g2, g3, g4, g5, g6, g7, g8, Nat.reduceEqDiff, Nat.reduceAdd, false_and, and_false, true_and, and_true, reduceIte, nZ0, nZ1]
  have q1 := rσ.2.1 67; simp only [rgS] at q1
  split
  · rename_i hc7
    skip
    unfold w_X16_box_15
    try simp only [forall_eq, rII, rIJ, rIP, rJJ, rJI, rJP, rPP, rPI, rPJ, g1, g2, g3, g4, g5, g6, g7, g8, Nat.reduceEqDiff, Nat.reduceAdd, false_and, and_false, true_and, and_true, reduceIte, nZ0, nZ1]
    have q2 := rσ.2.1 66; simp only [rgS] at q2
    refine ⟨by (first | omega | with_reducible assumption | (unfold rng; omega) | (unfold rng; (repeat' split) <;> omega) | grind), ?_⟩
    have q3 := rσ.1 65 ((gI σ rm 66).toNat); simp only [rgT] at q3
    refine ⟨by (first | omega | with_reducible assumption | (unfold rng; omega) | (unfold rng; (repeat' split) <;> omega) | grind), ?_⟩
    refine ⟨by (first | omega | with_reducible assumption | (unfold rng; omega) | (unfold rng; (repeat' split) <;> omega) | grind), ?_⟩
    have L52 : ∀ (fu52 : Nat) (τ52 : Sg) (v10 : Int), Rg ra jx rm τ52 → Fr ra jx rm [46, 47, 48, 60, 61, 62, 63, 64, 65] [66, 67] σ τ52 → (0 ≤ v10 ∧ v10 ≤ 8 ∧ gI τ52 rm 66 = gI σ (ra 65) (gI σ rm 66).toNat ∧ gI τ52 rm 67 = gI σ rm 67 ∧ (∀ a, gI τ52 (ra 65) a = gI σ (ra 65) a) ∧ (∀ a, gI τ52 (ra 46) a = gI σ (ra 46) a) ∧ (∀ a, gI τ52 (ra 47) a = gI σ (ra 47) a)) → ((8 - v10).toNat) < fu52 → wl_X16_box_52 ra jx rm Q X fu52 τ52 v1 v2 v3 v6 v7 v8 (gI σ rm 66) v10 := by
      intro fu52
      induction fu52 with
      | zero => intro τ52 _ _ _ _ h9; omega
      | succ fu52 ih52 =>
        intro τ52 v10 rτ52 fτ52 hi52 hm52
        unfold wl_X16_box_52
        have eτ52_54 := fτ52.1 54 (by decide)
        have eτ52_55 := fτ52.1 55 (by decide)
        have eτ52_59 := fτ52.1 59 (by decide)
        have jτ52 := fτ52.2.2.1
        unfold w_X16_box_52
        try simp only [forall_eq, rII, rIJ, rIP, rJJ, rJI, rJP, rPP, rPI, rPJ, g1, g2, g3, g4, g5, g6, g7, g8, Nat.reduceEqDiff, Nat.reduceAdd, false_and, and_false, true_and, and_true, reduceIte, nZ0, nZ1, eτ52_54.1, eτ52_54.2, eτ52_55.1, eτ52_55.2, eτ52_59.1, eτ52_59.2, fun a k => (jτ52 a k).1, fun a k => (jτ52 a k).2]
        have i1 := hi52.1; have i2 := hi52.2.1; have i3 := hi52.2.2.1; have i4 := hi52.2.2.2.1; have i5 := hi52.2.2.2.2.1; have i6 := hi52.2.2.2.2.2.1; have i7 := hi52.2.2.2.2.2.2; clear hi52
        split
        · rename_i hc56
          skip
          unfold w_X16_box_90
          try simp only [forall_eq, rII, rIJ, rIP, rJJ, rJI, rJP, rPP, rPI, rPJ, g1, g2, g3, g4, g5, g6, g7, g8, Nat.reduceEqDiff, Nat.reduceAdd, false_and, and_false, true_and, and_true, reduceIte, nZ0, nZ1, eτ52_54.1, eτ52_54.2, eτ52_55.1, eτ52_55.2, eτ52_59.1, eτ52_59.2, fun a k => (jτ52 a k).1, fun a k => (jτ52 a k).2]
          simp only [i3, i4, i5, i6, i7]
          refine ⟨by (first | omega | with_reducible assumption | (unfold rng; omega) | (unfold rng; (repeat' split) <;> omega) | grind), ?_⟩
          refine ⟨by (first | omega | with_reducible assumption | (unfold rng; omega) | (unfold rng; (repeat' split) <;> omega) | grind), ?_⟩
          refine ⟨by (first | omega | with_reducible assumption | (unfold rng; omega) | (unfold rng; (repeat' split) <;> omega) | grind), ?_⟩
          refine ⟨by (first | omega | with_reducible assumption | (unfold rng; omega) | (unfold rng; (repeat' split) <;> omega) | grind), ?_⟩
          have q4 := rτ52.1 47 (v1.toNat); simp only [rgT] at q4
          split
          · rename_i hc122
            skip
            unfold w_X16_box_136
            try simp only [forall_eq, rII, rIJ, rIP, rJJ, rJI, rJP, rPP, rPI, rPJ, g1, g2, g3, g4, g5, g6, g7, g8, Nat.reduceEqDiff, Nat.reduceAdd, false_and, and_false, true_and, and_true, reduceIte, nZ0, nZ1, eτ52_54.1, eτ52_54.2, eτ52_55.1, eτ52_55.2, eτ52_59.1, eτ52_59.2, fun a k => (jτ52 a k).1, fun a k => (jτ52 a k).2]
            refine ⟨by (first | omega | with_reducible assumption | (unfold rng; omega) | (unfold rng; (repeat' split) <;> omega) | grind), ?_⟩
            refine ⟨by (first | omega | with_reducible assumption | (unfold rng; omega) | (unfold rng; (repeat' split) <;> omega) | grind), ?_⟩
            unfold w_X16_box_149
            try simp only [forall_eq, rII, rIJ, rIP, rJJ, rJI, rJP, rPP, rPI, rPJ, g1, g2, g3, g4, g5, g6, g7, g8, Nat.reduceEqDiff, Nat.reduceAdd, false_and, and_false, true_and, and_true, reduceIte, nZ0, nZ1, eτ52_54.1, eτ52_54.2, eτ52_55.1, eτ52_55.2, eτ52_59.1, eτ52_59.2, fun a k => (jτ52 a k).1, fun a k => (jτ52 a k).2]
            refine ⟨by (first | omega | with_reducible assumption | (unfold rng; omega) | (unfold rng; (repeat' split) <;> omega) | grind), ?_⟩
            refine ⟨by (first | omega | with_reducible assumption | (unfold rng; omega) | (unfold rng; (repeat' split) <;> omega) | grind), ?_⟩
            refine ⟨by (first | omega | with_reducible assumption | (unfold rng; omega) | (unfold rng; (repeat' split) <;> omega) | grind), ?_⟩
            have q5 := rτ52.1 48 (v1.toNat); simp only [rgT] at q5
            have q6 := rτ52.2.1 67; simp only [rgS] at q6
            refine ⟨by (first | omega | with_reducible assumption | (unfold rng; omega) | (unfold rng; (repeat' split) <;> omega) | grind), ?_⟩
            refine hQ _ _ ?_ ?_ ?_
            · refine Rg.sI g ?_ (by simp only [rgS]; first | with_reducible exact nZ_rng _ | with_reducible exact nB_rng _ | with_reducible exact wr_rng _ | with_reducible exact i32any _ | (first | omega | with_reducible assumption | (unfold rng; omega) | (unfold rng; (repeat' split) <;> omega) | grind)); refine Rg.aI g ?_ (by simp only [rgT]; first | with_reducible exact nZ_rng _ | with_reducible exact nB_rng _ | with_reducible exact wr_rng _ | with_reducible exact i32any _ | (first | omega | with_reducible assumption | (unfold rng; omega) | (unfold rng; (repeat' split) <;> omega) | grind)); refine Rg.aI g ?_ (by simp only [rgT]; first | with_reducible exact nZ_rng _ | with_reducible exact nB_rng _ | with_reducible exact wr_rng _ | with_reducible exact i32any _ | (first | omega | with_reducible assumption | (unfold rng; omega) | (unfold rng; (repeat' split) <;> omega) | grind)); refine Rg.aI g ?_ (by simp only [rgT]; first | with_reducible exact nZ_rng _ | with_reducible exact nB_rng _ | with_reducible exact wr_rng _ | with_reducible exact i32any _ | (first | omega | with_reducible assumption | (unfold rng; omega) | (unfold rng; (repeat' split) <;> omega) | grind)); refine Rg.aI g ?_ (by simp only [rgT]; first | with_reducible exact nZ_rng _ | with_reducible exact nB_rng _ | with_reducible exact wr_rng _ | with_reducible exact i32any _ | (first | omega | with_reducible assumption | (unfold rng; omega) | (unfold rng; (repeat' split) <;> omega) | grind)); refine Rg.aI g ?_ (by simp only [rgT]; first | with_reducible exact nZ_rng _ | with_reducible exact nB_rng _ | with_reducible exact wr_rng _ | with_reducible exact i32any _ | (first | omega | with_reducible assumption | (unfold rng; omega) | (unfold rng; (repeat' split) <;> omega) | grind)); refine Rg.aI g ?_ (by simp only [rgT]; first | with_reducible exact nZ_rng _ | with_reducible exact nB_rng _ | with_reducible exact wr_rng _ | with_reducible exact i32any _ | (first | omega | with_reducible assumption | (unfold rng; omega) | (unfold rng; (repeat' split) <;> omega) | grind)); exact rτ52
            · refine Fr.sI g ?_ (by decide); refine Fr.aI g ?_ (by decide); refine Fr.aI g ?_ (by decide); refine Fr.aI g ?_ (by decide); refine Fr.aI g ?_ (by decide); refine Fr.aI g ?_ (by decide); refine Fr.aI g ?_ (by decide); exact fτ52
            · refine ⟨_, _, _, _, hti.app h1 (by omega) ?_ ?_ ?_ ?_ ?_ ?_ ?_ ?_⟩ <;> (intros; (try simp only [rII, rIJ, rIP, rJJ, rJI, rJP, rPP, rPI, rPJ, g1, g2, g3, g4, g5, g6, g7, g8, Nat.reduceEqDiff, Nat.reduceAdd, false_and, and_false, true_and, and_true, reduceIte, nZ0, nZ1, eτ52_54.1, eτ52_54.2, eτ52_55.1, eτ52_55.2, eτ52_59.1, eτ52_59.2, fun a k => (jτ52 a k).1, fun a k => (jτ52 a k).2, i3, i4, i5, i6, i7]) <;> (repeat' split) <;> first | omega | assumption | grind)
          · rename_i hc122
            skip
            unfold w_X16_box_125
            try simp only [forall_eq, rII, rIJ, rIP, rJJ, rJI, rJP, rPP, rPI, rPJ, g1, g2, g3, g4, g5, g6, g7, g8, Nat.reduceEqDiff, Nat.reduceAdd, false_and, and_false, true_and, and_true, reduceIte, nZ0, nZ1, eτ52_54.1, eτ52_54.2, eτ52_55.1, eτ52_55.2, eτ52_59.1, eτ52_59.2, fun a k => (jτ52 a k).1, fun a k => (jτ52 a k).2]
            refine ⟨by (first | omega | with_reducible assumption | (unfold rng; omega) | (unfold rng; (repeat' split) <;> omega) | grind), ?_⟩
            unfold w_X16_box_149
            try simp only [forall_eq, rII, rIJ, rIP, rJJ, rJI, rJP, rPP, rPI, rPJ, g1, g2, g3, g4, g5, g6, g7, g8, Nat.reduceEqDiff, Nat.reduceAdd, false_and, and_false, true_and, and_true, reduceIte, nZ0, nZ1, eτ52_54.1, eτ52_54.2, eτ52_55.1, eτ52_55.2, eτ52_59.1, eτ52_59.2, fun a k => (jτ52 a k).1, fun a k => (jτ52 a k).2]
            refine ⟨by (first | omega | with_reducible assumption | (unfold rng; omega) | (unfold rng; (repeat' split) <;> omega) | grind), ?_⟩
            refine ⟨by (first | omega | with_reducible assumption | (unfold rng; omega) | (unfold rng; (repeat' split) <;> omega) | grind), ?_⟩
            refine ⟨by (first | omega | with_reducible assumption | (unfold rng; omega) | (unfold rng; (repeat' split) <;> omega) | grind), ?_⟩
            have q7 := rτ52.1 48 (v1.toNat); simp only [rgT] at q7
            have q8 := rτ52.2.1 67; simp only [rgS] at q8
            refine ⟨by (first | omega | with_reducible assumption | (unfold rng; omega) | (unfold rng; (repeat' split) <;> omega) | grind), ?_⟩
            refine hQ _ _ ?_ ?_ ?_
            · refine Rg.sI g ?_ (by simp only [rgS]; first | with_reducible exact nZ_rng _ | with_reducible exact nB_rng _ | with_reducible exact wr_rng _ | with_reducible exact i32any _ | (first | omega | with_reducible assumption | (unfold rng; omega) | (unfold rng; (repeat' split) <;> omega) | grind)); refine Rg.aI g ?_ (by simp only [rgT]; first | with_reducible exact nZ_rng _ | with_reducible exact nB_rng _ | with_reducible exact wr_rng _ | with_reducible exact i32any _ | (first | omega | with_reducible assumption | (unfold rng; omega) | (unfold rng; (repeat' split) <;> omega) | grind)); refine Rg.aI g ?_ (by simp only [rgT]; first | with_reducible exact nZ_rng _ | with_reducible exact nB_rng _ | with_reducible exact wr_rng _ | with_reducible exact i32any _ | (first | omega | with_reducible assumption | (unfold rng; omega) | (unfold rng; (repeat' split) <;> omega) | grind)); refine Rg.aI g ?_ (by simp only [rgT]; first | with_reducible exact nZ_rng _ | with_reducible exact nB_rng _ | with_reducible exact wr_rng _ | with_reducible exact i32any _ | (first | omega | with_reducible assumption | (unfold rng; omega) | (unfold rng; (repeat' split) <;> omega) | grind)); refine Rg.aI g ?_ (by simp only [rgT]; first | with_reducible exact nZ_rng _ | with_reducible exact nB_rng _ | with_reducible exact wr_rng _ | with_reducible exact i32any _ | (first | omega | with_reducible assumption | (unfold rng; omega) | (unfold rng; (repeat' split) <;> omega) | grind)); refine Rg.aI g ?_ (by simp only [rgT]; first | with_reducible exact nZ_rng _ | with_reducible exact nB_rng _ | with_reducible exact wr_rng _ | with_reducible exact i32any _ | (first | omega | with_reducible assumption | (unfold rng; omega) | (unfold rng; (repeat' split) <;> omega) | grind)); refine Rg.aI g ?_ (by simp only [rgT]; first | with_reducible exact nZ_rng _ | with_reducible exact nB_rng _ | with_reducible exact wr_rng _ | with_reducible exact i32any _ | (first | omega | with_reducible assumption | (unfold rng; omega) | (unfold rng; (repeat' split) <;> omega) | grind)); exact rτ52
            · refine Fr.sI g ?_ (by decide); refine Fr.aI g ?_ (by decide); refine Fr.aI g ?_ (by decide); refine Fr.aI g ?_ (by decide); refine Fr.aI g ?_ (by decide); refine Fr.aI g ?_ (by decide); refine Fr.aI g ?_ (by decide); exact fτ52
            · refine ⟨_, _, _, _, hti.app h1 (by omega) ?_ ?_ ?_ ?_ ?_ ?_ ?_ ?_⟩ <;> (intros; (try simp only [rII, rIJ, rIP, rJJ, rJI, rJP, rPP, rPI, rPJ, g1, g2, g3, g4, g5, g6, g7, g8, Nat.reduceEqDiff, Nat.reduceAdd, false_and, and_false, true_and, and_true, reduceIte, nZ0, nZ1, eτ52_54.1, eτ52_54.2, eτ52_55.1, eτ52_55.2, eτ52_59.1, eτ52_59.2, fun a k => (jτ52 a k).1, fun a k => (jτ52 a k).2, i3, i4, i5, i6, i7]) <;> (repeat' split) <;> first | omega | assumption | grind)
        · rename_i hc56
          skip
          unfold w_X16_box_59
          try simp only [forall_eq, rII, rIJ, rIP, rJJ, rJI, rJP, rPP, rPI, rPJ, g1, g2, g3, g4, g5, g6, g7, g8, Nat.reduceEqDiff, Nat.reduceAdd, false_and, and_false, true_and, and_true, reduceIte, nZ0, nZ1, eτ52_54.1, eτ52_54.2, eτ52_55.1, eτ52_55.2, eτ52_59.1, eτ52_59.2, fun a k => (jτ52 a k).1, fun a k => (jτ52 a k).2]
          split
          · rename_i hc60
            skip
            unfold w_X16_box_90
            try simp only [forall_eq, rII, rIJ, rIP, rJJ, rJI, rJP, rPP, rPI, rPJ, g1, g2, g3, g4, g5, g6, g7, g8, Nat.reduceEqDiff, Nat.reduceAdd, false_and, and_false, true_and, and_true, reduceIte, nZ0, nZ1, eτ52_54.1, eτ52_54.2, eτ52_55.1, eτ52_55.2, eτ52_59.1, eτ52_59.2, fun a k => (jτ52 a k).1, fun a k => (jτ52 a k).2]
            simp only [i3, i4, i5, i6, i7]
            refine ⟨by (first | omega | with_reducible assumption | (unfold rng; omega) | (unfold rng; (repeat' split) <;> omega) | grind), ?_⟩
            refine ⟨by (first | omega | with_reducible assumption | (unfold rng; omega) | (unfold rng; (repeat' split) <;> omega) | grind), ?_⟩
            refine ⟨by (first | omega | with_reducible assumption | (unfold rng; omega) | (unfold rng; (repeat' split) <;> omega) | grind), ?_⟩
            refine ⟨by (first | omega | with_reducible assumption | (unfold rng; omega) | (unfold rng; (repeat' split) <;> omega) | grind), ?_⟩
            have q9 := rτ52.1 47 (v1.toNat); simp only [rgT] at q9
            split
            · rename_i hc122
              skip
              unfold w_X16_box_136
              try simp only [forall_eq, rII, rIJ, rIP, rJJ, rJI, rJP, rPP, rPI, rPJ, g1, g2, g3, g4, g5, g6, g7, g8, Nat.reduceEqDiff, Nat.reduceAdd, false_and, and_false, true_and, and_true, reduceIte, nZ0, nZ1, eτ52_54.1, eτ52_54.2, eτ52_55.1, eτ52_55.2, eτ52_59.1, eτ52_59.2, fun a k => (jτ52 a k).1, fun a k => (jτ52 a k).2]
              refine ⟨by (first | omega | with_reducible assumption | (unfold rng; omega) | (unfold rng; (repeat' split) <;> omega) | grind), ?_⟩
              refine ⟨by (first | omega | with_reducible assumption | (unfold rng; omega) | (unfold rng; (repeat' split) <;> omega) | grind), ?_⟩
              unfold w_X16_box_149
              try simp only [forall_eq, rII, rIJ, rIP, rJJ, rJI, rJP, rPP, rPI, rPJ, g1, g2, g3, g4, g5, g6, g7, g8, Nat.reduceEqDiff, Nat.reduceAdd, false_and, and_false, true_and, and_true, reduceIte, nZ0, nZ1, eτ52_54.1, eτ52_54.2, eτ52_55.1, eτ52_55.2, eτ52_59.1, eτ52_59.2, fun a k => (jτ52 a k).1, fun a k => (jτ52 a k).2]
              refine ⟨by (first | omega | with_reducible assumption | (unfold rng; omega) | (unfold rng; (repeat' split) <;> omega) | grind), ?_⟩
              refine ⟨by (first | omega | with_reducible assumption | (unfold rng; omega) | (unfold rng; (repeat' split) <;> omega) | grind), ?_⟩
              refine ⟨by (first | omega | with_reducible assumption | (unfold rng; omega) | (unfold rng; (repeat' split) <;> omega) | grind), ?_⟩
              have q10 := rτ52.1 48 (v1.toNat); simp only [rgT] at q10
              have q11 := rτ52.2.1 67; simp only [rgS] at q11
              refine ⟨by (first | omega | with_reducible assumption | (unfold rng; omega) | (unfold rng; (repeat' split) <;> omega) | grind), ?_⟩
              refine hQ _ _ ?_ ?_ ?_
              · refine Rg.sI g ?_ (by simp only [rgS]; first | with_reducible exact nZ_rng _ | with_reducible exact nB_rng _ | with_reducible exact wr_rng _ | with_reducible exact i32any _ | (first | omega | with_reducible assumption | (unfold rng; omega) | (unfold rng; (repeat' split) <;> omega) | grind)); refine Rg.aI g ?_ (by simp only [rgT]; first | with_reducible exact nZ_rng _ | with_reducible exact nB_rng _ | with_reducible exact wr_rng _ | with_reducible exact i32any _ | (first | omega | with_reducible assumption | (unfold rng; omega) | (unfold rng; (repeat' split) <;> omega) | grind)); refine Rg.aI g ?_ (by simp only [rgT]; first | with_reducible exact nZ_rng _ | with_reducible exact nB_rng _ | with_reducible exact wr_rng _ | with_reducible exact i32any _ | (first | omega | with_reducible assumption | (unfold rng; omega) | (unfold rng; (repeat' split) <;> omega) | grind)); refine Rg.aI g ?_ (by simp only [rgT]; first | with_reducible exact nZ_rng _ | with_reducible exact nB_rng _ | with_reducible exact wr_rng _ | with_reducible exact i32any _ | (first | omega | with_reducible assumption | (unfold rng; omega) | (unfold rng; (repeat' split) <;> omega) | grind)); refine Rg.aI g ?_ (by simp only [rgT]; first | with_reducible exact nZ_rng _ | with_reducible exact nB_rng _ | with_reducible exact wr_rng _ | with_reducible exact i32any _ | (first | omega | with_reducible assumption | (unfold rng; omega) | (unfold rng; (repeat' split) <;> omega) | grind)); refine Rg.aI g ?_ (by simp only [rgT]; first | with_reducible exact nZ_rng _ | with_reducible exact nB_rng _ | with_reducible exact wr_rng _ | with_reducible exact i32any _ | (first | omega | with_reducible assumption | (unfold rng; omega) | (unfold rng; (repeat' split) <;> omega) | grind)); refine Rg.aI g ?_ (by simp only [rgT]; first | with_reducible exact nZ_rng _ | with_reducible exact nB_rng _ | with_reducible exact wr_rng _ | with_reducible exact i32any _ | (first | omega | with_reducible assumption | (unfold rng; omega) | (unfold rng; (repeat' split) <;> omega) | grind)); exact rτ52
              · refine Fr.sI g ?_ (by decide); refine Fr.aI g ?_ (by decide); refine Fr.aI g ?_ (by decide); refine Fr.aI g ?_ (by decide); refine Fr.aI g ?_ (by decide); refine Fr.aI g ?_ (by decide); refine Fr.aI g ?_ (by decide); exact fτ52
              · refine ⟨_, _, _, _, hti.app h1 (by omega) ?_ ?_ ?_ ?_ ?_ ?_ ?_ ?_⟩ <;> (intros; (try simp only [rII, rIJ, rIP, rJJ, rJI, rJP, rPP, rPI, rPJ, g1, g2, g3, g4, g5, g6, g7, g8, Nat.reduceEqDiff, Nat.reduceAdd, false_and, and_false, true_and, and_true, reduceIte, nZ0, nZ1, eτ52_54.1, eτ52_54.2, eτ52_55.1, eτ52_55.2, eτ52_59.1, eτ52_59.2, fun a k => (jτ52 a k).1, fun a k => (jτ52 a k).2, i3, i4, i5, i6, i7]) <;> (repeat' split) <;> first | omega | assumption | grind)
            · rename_i hc122
              skip
              unfold w_X16_box_125
              try simp only [forall_eq, rII, rIJ, rIP, rJJ, rJI, rJP, rPP, rPI, rPJ, g1, g2, g3, g4, g5, g6, g7, g8, Nat.reduceEqDiff, Nat.reduceAdd, false_and, and_false, true_and, and_true, reduceIte, nZ0, nZ1, eτ52_54.1, eτ52_54.2, eτ52_55.1, eτ52_55.2, eτ52_59.1, eτ52_59.2, fun a k => (jτ52 a k).1, fun a k => (jτ52 a k).2]
              refine ⟨by (first | omega | with_reducible assumption | (unfold rng; omega) | (unfold rng; (repeat' split) <;> omega) | grind), ?_⟩
              unfold w_X16_box_149
              try simp only [forall_eq, rII, rIJ, rIP, rJJ, rJI, rJP, rPP, rPI, rPJ, g1, g2, g3, g4, g5, g6, g7, g8, Nat.reduceEqDiff, Nat.reduceAdd, false_and, and_false, true_and, and_true, reduceIte, nZ0, nZ1, eτ52_54.1, eτ52_54.2, eτ52_55.1, eτ52_55.2, eτ52_59.1, eτ52_59.2, fun a k => (jτ52 a k).1, fun a k => (jτ52 a k).2]
              refine ⟨by (first | omega | with_reducible assumption | (unfold rng; omega) | (unfold rng; (repeat' split) <;> omega) | grind), ?_⟩
              refine ⟨by (first | omega | with_reducible assumption | (unfold rng; omega) | (unfold rng; (repeat' split) <;> omega) | grind), ?_⟩
              refine ⟨by (first | omega | with_reducible assumption | (unfold rng; omega) | (unfold rng; (repeat' split) <;> omega) | grind), ?_⟩
              have q12 := rτ52.1 48 (v1.toNat); simp only [rgT] at q12
              have q13 := rτ52.2.1 67; simp only [rgS] at q13
              refine ⟨by (first | omega | with_reducible assumption | (unfold rng; omega) | (unfold rng; (repeat' split) <;> omega) | grind), ?_⟩
              refine hQ _ _ ?_ ?_ ?_
              · refine Rg.sI g ?_ (by simp only [rgS]; first | with_reducible exact nZ_rng _ | with_reducible exact nB_rng _ | with_reducible exact wr_rng _ | with_reducible exact i32any _ | (first | omega | with_reducible assumption | (unfold rng; omega) | (unfold rng; (repeat' split) <;> omega) | grind)); refine Rg.aI g ?_ (by simp only [rgT]; first | with_reducible exact nZ_rng _ | with_reducible exact nB_rng _ | with_reducible exact wr_rng _ | with_reducible exact i32any _ | (first | omega | with_reducible assumption | (unfold rng; omega) | (unfold rng; (repeat' split) <;> omega) | grind)); refine Rg.aI g ?_ (by simp only [rgT]; first | with_reducible exact nZ_rng _ | with_reducible exact nB_rng _ | with_reducible exact wr_rng _ | with_reducible exact i32any _ | (first | omega | with_reducible assumption | (unfold rng; omega) | (unfold rng; (repeat' split) <;> omega) | grind)); refine Rg.aI g ?_ (by simp only [rgT]; first | with_reducible exact nZ_rng _ | with_reducible exact nB_rng _ | with_reducible exact wr_rng _ | with_reducible exact i32any _ | (first | omega | with_reducible assumption | (unfold rng; omega) | (unfold rng; (repeat' split) <;> omega) | grind)); refine Rg.aI g ?_ (by simp only [rgT]; first | with_reducible exact nZ_rng _ | with_reducible exact nB_rng _ | with_reducible exact wr_rng _ | with_reducible exact i32any _ | (first | omega | with_reducible assumption | (unfold rng; omega) | (unfold rng; (repeat' split) <;> omega) | grind)); refine Rg.aI g ?_ (by simp only [rgT]; first | with_reducible exact nZ_rng _ | with_reducible exact nB_rng _ | with_reducible exact wr_rng _ | with_reducible exact i32any _ | (first | omega | with_reducible assumption | (unfold rng; omega) | (unfold rng; (repeat' split) <;> omega) | grind)); refine Rg.aI g ?_ (by simp only [rgT]; first | with_reducible exact nZ_rng _ | with_reducible exact nB_rng _ | with_reducible exact wr_rng _ | with_reducible exact i32any _ | (first | omega | with_reducible assumption | (unfold rng; omega) | (unfold rng; (repeat' split) <;> omega) | grind)); exact rτ52
              · refine Fr.sI g ?_ (by decide); refine Fr.aI g ?_ (by decide); refine Fr.aI g ?_ (by decide); refine Fr.aI g ?_ (by decide); refine Fr.aI g ?_ (by decide); refine Fr.aI g ?_ (by decide); refine Fr.aI g ?_ (by decide); exact fτ52
              · refine ⟨_, _, _, _, hti.app h1 (by omega) ?_ ?_ ?_ ?_ ?_ ?_ ?_ ?_⟩ <;> (intros; (try simp only [rII, rIJ, rIP, rJJ, rJI, rJP, rPP, rPI, rPJ, g1, g2, g3, g4, g5, g6, g7, g8, Nat.reduceEqDiff, Nat.reduceAdd, false_and, and_false, true_and, and_true, reduceIte, nZ0, nZ1, eτ52_54.1, eτ52_54.2, eτ52_55.1, eτ52_55.2, eτ52_59.1, eτ52_59.2, fun a k => (jτ52 a k).1, fun a k => (jτ52 a k).2, i3, i4, i5, i6, i7]) <;> (repeat' split) <;> first | omega | assumption | grind)
          · rename_i hc60
            skip
            unfold w_X16_box_63
            try simp only [forall_eq, rII, rIJ, rIP, rJJ, rJI, rJP, rPP, rPI, rPJ, g1, g2, g3, g4, g5, g6, g7, g8, Nat.reduceEqDiff, Nat.reduceAdd, false_and, and_false, true_and, and_true, reduceIte, nZ0, nZ1, eτ52_54.1, eτ52_54.2, eτ52_55.1, eτ52_55.2, eτ52_59.1, eτ52_59.2, fun a k => (jτ52 a k).1, fun a k => (jτ52 a k).2]
            refine ⟨by (first | omega | with_reducible assumption | (unfold rng; omega) | (unfold rng; (repeat' split) <;> omega) | grind), ?_⟩
            refine ⟨by (first | omega | with_reducible assumption | (unfold rng; omega) | (unfold rng; (repeat' split) <;> omega) | grind), ?_⟩
            refine ⟨by (first | omega | with_reducible assumption | (unfold rng; omega) | (unfold rng; (repeat' split) <;> omega) | grind), ?_⟩
            refine ⟨b6, n6, ha6, hr6, by (first | omega | with_reducible assumption | (unfold rng; omega) | (unfold rng; (repeat' split) <;> omega) | grind), ?_⟩
            refine ⟨by (first | omega | with_reducible assumption | (unfold rng; omega) | (unfold rng; (repeat' split) <;> omega) | grind), ?_⟩
            refine ⟨by (first | omega | with_reducible assumption | (unfold rng; omega) | (unfold rng; (repeat' split) <;> omega) | grind), ?_⟩
            refine ih52 _ _ ?_ ?_ ?_ ?_
            · refine Rg.aJ g ?_ (by simp only [rlT]; first | with_reducible assumption | omega | exact Int64.toInt_le _ | (rw [Int64.toInt_ofInt_of_le (by omega) (by omega)]; omega) | grind); exact rτ52
            · refine Fr.aJ g ?_ (by decide); exact fτ52
            · refine ⟨?_, ?_, ?_, ?_, ?_, ?_, ?_⟩ <;> (intros; (try simp only [rII, rIJ, rIP, rJJ, rJI, rJP, rPP, rPI, rPJ, g1, g2, g3, g4, g5, g6, g7, g8, Nat.reduceEqDiff, Nat.reduceAdd, false_and, and_false, true_and, and_true, reduceIte, nZ0, nZ1, eτ52_54.1, eτ52_54.2, eτ52_55.1, eτ52_55.2, eτ52_59.1, eτ52_59.2, fun a k => (jτ52 a k).1, fun a k => (jτ52 a k).2]) <;> (repeat' split) <;> first | omega | assumption | grind)
            · (try simp only [rII, rIJ, rIP, rJJ, rJI, rJP, rPP, rPI, rPJ, g1, g2, g3, g4, g5, g6, g7, g8, Nat.reduceEqDiff, Nat.reduceAdd, false_and, and_false, true_and, and_true, reduceIte, nZ0, nZ1, eτ52_54.1, eτ52_54.2, eτ52_55.1, eτ52_55.2, eτ52_59.1, eτ52_59.2, fun a k => (jτ52 a k).1, fun a k => (jτ52 a k).2]) <;> (first | omega | with_reducible assumption | (unfold rng; omega) | (unfold rng; (repeat' split) <;> omega) | grind)
    refine ⟨_, L52 _ _ _ ?_ ?_ ?_ (Nat.lt_succ_self _)⟩
    · refine Rg.aJ g ?_ (by simp only [rlT]; first | with_reducible assumption | omega | exact Int64.toInt_le _ | (rw [Int64.toInt_ofInt_of_le (by omega) (by omega)]; omega) | grind); refine Rg.aI g ?_ (by simp only [rgT]; first | with_reducible exact nZ_rng _ | with_reducible exact nB_rng _ | with_reducible exact wr_rng _ | with_reducible exact i32any _ | (first | omega | with_reducible assumption | (unfold rng; omega) | (unfold rng; (repeat' split) <;> omega) | grind)); refine Rg.sI g ?_ (by simp only [rgS]; first | with_reducible exact nZ_rng _ | with_reducible exact nB_rng _ | with_reducible exact wr_rng _ | with_reducible exact i32any _ | (first | omega | with_reducible assumption | (unfold rng; omega) | (unfold rng; (repeat' split) <;> omega) | grind)); exact rσ
    · refine Fr.aJ g ?_ (by decide); refine Fr.aI g ?_ (by decide); refine Fr.sI g ?_ (by decide); exact fσ
    · refine ⟨?_, ?_, ?_, ?_, ?_, ?_, ?_⟩ <;> (intros; (try simp only [rII, rIJ, rIP, rJJ, rJI, rJP, rPP, rPI, rPJ, g1, g2, g3, g4, g5, g6, g7, g8, Nat.reduceEqDiff, Nat.reduceAdd, false_and, and_false, true_and, and_true, reduceIte, nZ0, nZ1]) <;> (repeat' split) <;> first | omega | assumption | grind)
  · rename_i hc7
    skip
    unfold w_X16_box_10
    try simp only [forall_eq, rII, rIJ, rIP, rJJ, rJI, rJP, rPP, rPI, rPJ, g1, g2, g3, g4, g5, g6, g7, g8, Nat.reduceEqDiff, Nat.reduceAdd, false_and, and_false, true_and, and_true, reduceIte, nZ0, nZ1]
    refine ⟨by simp, ?_⟩
    refine hX _ _ ?_ ?_ ?_
    · exact rσ
    · exact fσ
    · exact ⟨rfl, hth⟩
set_option maxHeartbeats 2000000 in
theorem s_X16_free {ra : Nat → Nat} {jx : Nat → Nat → Nat} {rm : Nat} (g : Geo ra jx rm) {σ : Sg} {v1 : Int} (rσ : Rg ra jx rm σ) (hth : ThH ra rm σ v1) (h1 : 0 ≤ v1 ∧ v1 < 12802) {Q : Sg → Unit → Prop} {X : Sg → String → Prop} (hQ : ∀ (σ' : Sg) (r : Unit), Rg ra jx rm σ' → Fr ra jx rm [65] [66] σ σ' → (ThE ra rm σ') → Q σ' r) : wp_X16_free ra jx rm v1 σ Q X := by
  obtain ⟨g1, g2, g3, g4, g5, g6, g7, g8⟩ := id g
  have fσ : Fr ra jx rm [65] [66] σ σ := Fr.rf
  unfold wp_X16_free
  unfold w_X16_free_0
  try simp only [forall_eq, rII, rIJ, rIP, rJJ, rJI, rJP, rPP, rPI, rPJ, g1, g2, g3, g4, g5, g6, g7, g8, Nat.reduceEqDiff, Nat.reduceAdd, false_and, and_false, true_and, and_true, reduceIte, nZ0, nZ1]
  refine ⟨by (first | omega | with_reducible assumption | (unfold rng; omega) | (unfold rng; (repeat' split) <;> omega) | grind), ?_⟩
  have q1 := rσ.2.1 66; simp only [rgS] at q1
  refine hQ _ _ ?_ ?_ ?_
  · refine Rg.sI g ?_ (by simp only [rgS]; first | with_reducible exact nZ_rng _ | with_reducible exact nB_rng _ | with_reducible exact wr_rng _ | with_reducible exact i32any _ | (first | omega | with_reducible assumption | (unfold rng; omega) | (unfold rng; (repeat' split) <;> omega) | grind)); refine Rg.aI g ?_ (by simp only [rgT]; first | with_reducible exact nZ_rng _ | with_reducible exact nB_rng _ | with_reducible exact wr_rng _ | with_reducible exact i32any _ | (first | omega | with_reducible assumption | (unfold rng; omega) | (unfold rng; (repeat' split) <;> omega) | grind)); exact rσ
  · refine Fr.sI g ?_ (by decide); refine Fr.aI g ?_ (by decide); exact fσ
  · refine hth.fre ?_ ?_ ?_ ?_ ?_ ?_ ?_ ?_ <;> (intros; (try simp only [rII, rIJ, rIP, rJJ, rJI, rJP, rPP, rPI, rPJ, g1, g2, g3, g4, g5, g6, g7, g8, Nat.reduceEqDiff, Nat.reduceAdd, false_and, and_false, true_and, and_true, reduceIte, nZ0, nZ1]) <;> (repeat' split) <;> first | omega | assumption | grind)
set_option maxHeartbeats 4000000 in
theorem s_X16_flush {ra : Nat → Nat} {jx : Nat → Nat → Nat} {rm : Nat} (g : Geo ra jx rm) {σ : Sg} {v1 : Int} (rσ : Rg ra jx rm σ) (hth : ThE ra rm σ) (h1 : 0 ≤ v1 ∧ v1 < 64) (hcm : ∀ i : Nat, i < 1100 → gI σ (ra 54) i ≤ gI σ rm 34) {Q : Sg → Int → Prop} {X : Sg → String → Prop} (hQ : ∀ (σ' : Sg) (r : Int), Rg ra jx rm σ' → Fr ra jx rm [46, 47, 48, 54, 58, 59] [67] σ σ' → (ThE ra rm σ' ∧ (∀ i : Nat, i < 1100 → gI σ' (ra 54) i ≤ gI σ rm 34)) → Q σ' r) : wp_X16_flush ra jx rm v1 σ Q X := by
  obtain ⟨g1, g2, g3, g4, g5, g6, g7, g8⟩ := id g
  have fσ : Fr ra jx rm [46, 47, 48, 54, 58, 59] [67] σ σ := Fr.rf
  unfold wp_X16_flush
  have q1 := rσ.2.1 34; simp only [rgS] at q1
  have L0 : ∀ (fu0 : Nat) (τ0 : Sg), Rg ra jx rm τ0 → Fr ra jx rm [46, 47, 48, 54, 58, 59] [67] σ τ0 → (ThE ra rm τ0 ∧ (∀ i : Nat, i < 1100 → gI τ0 (ra 54) i ≤ gI σ rm 34)) → ((gI τ0 rm 67).toNat) < fu0 → wl_X16_flush_0 ra jx rm Q X fu0 τ0 v1 := by
    intro fu0
    induction fu0 with
    | zero => intro τ0 _ _ _ h9; omega
    | succ fu0 ih0 =>
      intro τ0 rτ0 fτ0 hi0 hm0
      unfold wl_X16_flush_0
      have eτ0_55 := fτ0.1 55 (by decide)
      have eτ0_60 := fτ0.1 60 (by decide)
      have eτ0_64 := fτ0.1 64 (by decide)
      have eτ0_65 := fτ0.1 65 (by decide)
      have sτ0_34 := fτ0.2.1 34 (by decide)
      have jτ0 := fτ0.2.2.1
      unfold w_X16_flush_0
      try simp only [forall_eq, rII, rIJ, rIP, rJJ, rJI, rJP, rPP, rPI, rPJ, g1, g2, g3, g4, g5, g6, g7, g8, Nat.reduceEqDiff, Nat.reduceAdd, false_and, and_false, true_and, and_true, reduceIte, nZ0, nZ1, eτ0_55.1, eτ0_55.2, eτ0_60.1, eτ0_60.2, eτ0_64.1, eτ0_64.2, eτ0_65.1, eτ0_65.2, sτ0_34.1, sτ0_34.2, fun a k => (jτ0 a k).1, fun a k => (jτ0 a k).2]
      obtain ⟨⟨own, ps, bm, F, hti⟩, hcm0⟩ := hi0
      have hbx := rτ0.2.1 67; simp only [rgS] at hbx
      have hla := hti.la h1
      have hbd := hti.bd (fun i => (rτ0.1 54 i).2)
      have hbd1 := hbd.2.2 v1 h1
      have hbd0 := hbd.1; have hbdF := hbd.2.1; clear hbd
      refine ⟨by (first | omega | with_reducible assumption | (unfold rng; omega) | (unfold rng; (repeat' split) <;> omega) | grind), ?_⟩
      have q2 := rτ0.1 46 (v1.toNat); simp only [rgT] at q2
      split
      · rename_i hc7
        skip
        unfold w_X16_flush_160
        try simp only [forall_eq, rII, rIJ, rIP, rJJ, rJI, rJP, rPP, rPI, rPJ, g1, g2, g3, g4, g5, g6, g7, g8, Nat.reduceEqDiff, Nat.reduceAdd, false_and, and_false, true_and, and_true, reduceIte, nZ0, nZ1, eτ0_55.1, eτ0_55.2, eτ0_60.1, eτ0_60.2, eτ0_64.1, eτ0_64.2, eτ0_65.1, eτ0_65.2, sτ0_34.1, sτ0_34.2, fun a k => (jτ0 a k).1, fun a k => (jτ0 a k).2]
        refine hQ _ _ ?_ ?_ ?_
        · exact rτ0
        · exact fτ0
        · exact ⟨⟨_, _, _, _, hti⟩, hcm0⟩
      · rename_i hc7
        skip
        unfold w_X16_flush_10
        try simp only [forall_eq, rII, rIJ, rIP, rJJ, rJI, rJP, rPP, rPI, rPJ, g1, g2, g3, g4, g5, g6, g7, g8, Nat.reduceEqDiff, Nat.reduceAdd, false_and, and_false, true_and, and_true, reduceIte, nZ0, nZ1, eτ0_55.1, eτ0_55.2, eτ0_60.1, eτ0_60.2, eτ0_64.1, eτ0_64.2, eτ0_65.1, eτ0_65.2, sτ0_34.1, sτ0_34.2, fun a k => (jτ0 a k).1, fun a k => (jτ0 a k).2]
        have q64 := rσ.1 64 (gI τ0 (ra 46) v1.toNat).toNat; simp only [rgT] at q64
        have hcmc := hcm0 (gI σ (ra 64) (gI τ0 (ra 46) v1.toNat).toNat).toNat (by omega)
        have hrm := rσ.2.1 34; simp only [rgS] at hrm
        refine ⟨by (first | omega | with_reducible assumption | (unfold rng; omega) | (unfold rng; (repeat' split) <;> omega) | grind), ?_⟩
        refine ⟨by (first | omega | with_reducible assumption | (unfold rng; omega) | (unfold rng; (repeat' split) <;> omega) | grind), ?_⟩
        have q3 := rσ.1 64 ((gI τ0 (ra 46) v1.toNat).toNat); simp only [rgT] at q3
        refine ⟨by (first | omega | with_reducible assumption | (unfold rng; omega) | (unfold rng; (repeat' split) <;> omega) | grind), ?_⟩
        have q4 := rτ0.1 54 ((gI σ (ra 64) (gI τ0 (ra 46) v1.toNat).toNat).toNat); simp only [rgT] at q4
        split
        · rename_i hc34
          skip
          unfold w_X16_flush_39
          try simp only [forall_eq, rII, rIJ, rIP, rJJ, rJI, rJP, rPP, rPI, rPJ, g1, g2, g3, g4, g5, g6, g7, g8, Nat.reduceEqDiff, Nat.reduceAdd, false_and, and_false, true_and, and_true, reduceIte, nZ0, nZ1, eτ0_55.1, eτ0_55.2, eτ0_60.1, eτ0_60.2, eτ0_64.1, eτ0_64.2, eτ0_65.1, eτ0_65.2, sτ0_34.1, sτ0_34.2, fun a k => (jτ0 a k).1, fun a k => (jτ0 a k).2]
          refine ⟨by (first | omega | with_reducible assumption | (unfold rng; omega) | (unfold rng; (repeat' split) <;> omega) | grind), ?_⟩
          refine ⟨by (first | omega | with_reducible assumption | (unfold rng; omega) | (unfold rng; (repeat' split) <;> omega) | grind), ?_⟩
          refine ⟨by (first | omega | with_reducible assumption | (unfold rng; omega) | (unfold rng; (repeat' split) <;> omega) | grind), ?_⟩
          have q5 := rσ.1 55 ((gI σ (ra 64) (gI τ0 (ra 46) v1.toNat).toNat).toNat); simp only [rgT] at q5
          refine ⟨by (first | omega | with_reducible assumption | (unfold rng; omega) | (unfold rng; (repeat' split) <;> omega) | grind), ?_⟩
          have q6 := remI_eq (x := ((gI σ (ra 55) (gI σ (ra 64) (gI τ0 (ra 46) v1.toNat).toNat).toNat) + (gI τ0 (ra 54) (gI σ (ra 64) (gI τ0 (ra 46) v1.toNat).toNat).toNat))) (y := 8) (by (first | omega | with_reducible assumption | (unfold rng; omega) | (unfold rng; (repeat' split) <;> omega) | grind)) (by (first | omega | with_reducible assumption | (unfold rng; omega) | (unfold rng; (repeat' split) <;> omega) | grind))
          refine ⟨by (first | omega | with_reducible assumption | (unfold rng; omega) | (unfold rng; (repeat' split) <;> omega) | grind), ?_⟩
          refine ⟨by (first | omega | with_reducible assumption | (unfold rng; omega) | (unfold rng; (repeat' split) <;> omega) | grind), ?_⟩
          refine ⟨by (first | omega | with_reducible assumption | (unfold rng; omega) | (unfold rng; (repeat' split) <;> omega) | grind), ?_⟩
          refine ⟨by (first | omega | with_reducible assumption | (unfold rng; omega) | (unfold rng; (repeat' split) <;> omega) | grind), ?_⟩
          refine ⟨by (first | omega | with_reducible assumption | (unfold rng; omega) | (unfold rng; (repeat' split) <;> omega) | grind), ?_⟩
          refine ⟨by (first | omega | with_reducible assumption | (unfold rng; omega) | (unfold rng; (repeat' split) <;> omega) | grind), ?_⟩
          refine ⟨by (first | omega | with_reducible assumption | (unfold rng; omega) | (unfold rng; (repeat' split) <;> omega) | grind), ?_⟩
          have q7 := rσ.1 60 ((gI τ0 (ra 46) v1.toNat).toNat); simp only [rgT] at q7
          split
          · rename_i hc89
            skip
            unfold w_X16_flush_96
            try simp only [forall_eq, rII, rIJ, rIP, rJJ, rJI, rJP, rPP, rPI, rPJ, g1, g2, g3, g4, g5, g6, g7, g8, Nat.reduceEqDiff, Nat.reduceAdd, false_and, and_false, true_and, and_true, reduceIte, nZ0, nZ1, eτ0_55.1, eτ0_55.2, eτ0_60.1, eτ0_60.2, eτ0_64.1, eτ0_64.2, eτ0_65.1, eτ0_65.2, sτ0_34.1, sτ0_34.2, fun a k => (jτ0 a k).1, fun a k => (jτ0 a k).2]
            unfold w_X16_flush_97
            try simp only [forall_eq, rII, rIJ, rIP, rJJ, rJI, rJP, rPP, rPI, rPJ, g1, g2, g3, g4, g5, g6, g7, g8, Nat.reduceEqDiff, Nat.reduceAdd, false_and, and_false, true_and, and_true, reduceIte, nZ0, nZ1, eτ0_55.1, eτ0_55.2, eτ0_60.1, eτ0_60.2, eτ0_64.1, eτ0_64.2, eτ0_65.1, eτ0_65.2, sτ0_34.1, sτ0_34.2, fun a k => (jτ0 a k).1, fun a k => (jτ0 a k).2]
            refine ⟨by (first | omega | with_reducible assumption | (unfold rng; omega) | (unfold rng; (repeat' split) <;> omega) | grind), ?_⟩
            refine ⟨by (first | omega | with_reducible assumption | (unfold rng; omega) | (unfold rng; (repeat' split) <;> omega) | grind), ?_⟩
            refine ⟨by (first | omega | with_reducible assumption | (unfold rng; omega) | (unfold rng; (repeat' split) <;> omega) | grind), ?_⟩
            have q8 := rσ.1 65 ((gI τ0 (ra 46) v1.toNat).toNat); simp only [rgT] at q8
            refine ⟨by (first | omega | with_reducible assumption | (unfold rng; omega) | (unfold rng; (repeat' split) <;> omega) | grind), ?_⟩
            split
            · rename_i hc123
              skip
              unfold w_X16_flush_130
              try simp only [forall_eq, rII, rIJ, rIP, rJJ, rJI, rJP, rPP, rPI, rPJ, g1, g2, g3, g4, g5, g6, g7, g8, Nat.reduceEqDiff, Nat.reduceAdd, false_and, and_false, true_and, and_true, reduceIte, nZ0, nZ1, eτ0_55.1, eτ0_55.2, eτ0_60.1, eτ0_60.2, eτ0_64.1, eτ0_64.2, eτ0_65.1, eτ0_65.2, sτ0_34.1, sτ0_34.2, fun a k => (jτ0 a k).1, fun a k => (jτ0 a k).2]
              refine ⟨by (first | omega | with_reducible assumption | (unfold rng; omega) | (unfold rng; (repeat' split) <;> omega) | grind), ?_⟩
              unfold w_X16_flush_136
              try simp only [forall_eq, rII, rIJ, rIP, rJJ, rJI, rJP, rPP, rPI, rPJ, g1, g2, g3, g4, g5, g6, g7, g8, Nat.reduceEqDiff, Nat.reduceAdd, false_and, and_false, true_and, and_true, reduceIte, nZ0, nZ1, eτ0_55.1, eτ0_55.2, eτ0_60.1, eτ0_60.2, eτ0_64.1, eτ0_64.2, eτ0_65.1, eτ0_65.2, sτ0_34.1, sτ0_34.2, fun a k => (jτ0 a k).1, fun a k => (jτ0 a k).2]
              refine ⟨by (first | omega | with_reducible assumption | (unfold rng; omega) | (unfold rng; (repeat' split) <;> omega) | grind), ?_⟩
              have q9 := rτ0.1 47 (v1.toNat); simp only [rgT] at q9
              refine ⟨by (first | omega | with_reducible assumption | (unfold rng; omega) | (unfold rng; (repeat' split) <;> omega) | grind), ?_⟩
              refine ⟨by (first | omega | with_reducible assumption | (unfold rng; omega) | (unfold rng; (repeat' split) <;> omega) | grind), ?_⟩
              have q10 := rτ0.1 48 (v1.toNat); simp only [rgT] at q10
              have q11 := rτ0.2.1 67; simp only [rgS] at q11
              refine ⟨by (first | omega | with_reducible assumption | (unfold rng; omega) | (unfold rng; (repeat' split) <;> omega) | grind), ?_⟩
              refine ih0 _ ?_ ?_ ?_ ?_
              · refine Rg.sI g ?_ (by simp only [rgS]; first | with_reducible exact nZ_rng _ | with_reducible exact nB_rng _ | with_reducible exact wr_rng _ | with_reducible exact i32any _ | (first | omega | with_reducible assumption | (unfold rng; omega) | (unfold rng; (repeat' split) <;> omega) | grind)); refine Rg.aI g ?_ (by simp only [rgT]; first | with_reducible exact nZ_rng _ | with_reducible exact nB_rng _ | with_reducible exact wr_rng _ | with_reducible exact i32any _ | (first | omega | with_reducible assumption | (unfold rng; omega) | (unfold rng; (repeat' split) <;> omega) | grind)); refine Rg.aI g ?_ (by simp only [rgT]; first | with_reducible exact nZ_rng _ | with_reducible exact nB_rng _ | with_reducible exact wr_rng _ | with_reducible exact i32any _ | (first | omega | with_reducible assumption | (unfold rng; omega) | (unfold rng; (repeat' split) <;> omega) | grind)); refine Rg.aI g ?_ (by simp only [rgT]; first | with_reducible exact nZ_rng _ | with_reducible exact nB_rng _ | with_reducible exact wr_rng _ | with_reducible exact i32any _ | (first | omega | with_reducible assumption | (unfold rng; omega) | (unfold rng; (repeat' split) <;> omega) | grind)); refine Rg.aJ g ?_ (by simp only [rlT]; first | with_reducible assumption | omega | exact Int64.toInt_le _ | (rw [Int64.toInt_ofInt_of_le (by omega) (by omega)]; omega) | grind); refine Rg.aI g ?_ (by simp only [rgT]; first | with_reducible exact nZ_rng _ | with_reducible exact nB_rng _ | with_reducible exact wr_rng _ | with_reducible exact i32any _ | (first | omega | with_reducible assumption | (unfold rng; omega) | (unfold rng; (repeat' split) <;> omega) | grind)); refine Rg.aI g ?_ (by simp only [rgT]; first | with_reducible exact nZ_rng _ | with_reducible exact nB_rng _ | with_reducible exact wr_rng _ | with_reducible exact i32any _ | (first | omega | with_reducible assumption | (unfold rng; omega) | (unfold rng; (repeat' split) <;> omega) | grind)); exact rτ0
              · refine Fr.sI g ?_ (by decide); refine Fr.aI g ?_ (by decide); refine Fr.aI g ?_ (by decide); refine Fr.aI g ?_ (by decide); refine Fr.aJ g ?_ (by decide); refine Fr.aI g ?_ (by decide); refine Fr.aI g ?_ (by decide); exact fτ0
              · first | exact ⟨hth, hcm⟩ | (refine ⟨⟨_, _, _, _, hti.out (σ' := _) h1 rfl (by assumption) (c := gI σ (ra 64) (gI τ0 (ra 46) v1.toNat).toNat) (by omega) (by omega) ?_ ?_ ?_ ?_ ?_ ?_ ?_ ?_⟩, ?_⟩ <;> (intros; (try simp only [rII, rIJ, rIP, rJJ, rJI, rJP, rPP, rPI, rPJ, g1, g2, g3, g4, g5, g6, g7, g8, Nat.reduceEqDiff, Nat.reduceAdd, false_and, and_false, true_and, and_true, reduceIte, nZ0, nZ1, eτ0_55.1, eτ0_55.2, eτ0_60.1, eτ0_60.2, eτ0_64.1, eτ0_64.2, eτ0_65.1, eτ0_65.2, sτ0_34.1, sτ0_34.2, fun a k => (jτ0 a k).1, fun a k => (jτ0 a k).2, slo]) <;> (repeat' split) <;> first | omega | assumption | grind))
              · (try simp only [rII, rIJ, rIP, rJJ, rJI, rJP, rPP, rPI, rPJ, g1, g2, g3, g4, g5, g6, g7, g8, Nat.reduceEqDiff, Nat.reduceAdd, false_and, and_false, true_and, and_true, reduceIte, nZ0, nZ1, eτ0_55.1, eτ0_55.2, eτ0_60.1, eτ0_60.2, eτ0_64.1, eτ0_64.2, eτ0_65.1, eτ0_65.2, sτ0_34.1, sτ0_34.2, fun a k => (jτ0 a k).1, fun a k => (jτ0 a k).2]) <;> (first | omega | with_reducible assumption | (unfold rng; omega) | (unfold rng; (repeat' split) <;> omega) | grind)
            · rename_i hc123
              skip
              unfold w_X16_flush_126
              try simp only [forall_eq, rII, rIJ, rIP, rJJ, rJI, rJP, rPP, rPI, rPJ, g1, g2, g3, g4, g5, g6, g7, g8, Nat.reduceEqDiff, Nat.reduceAdd, false_and, and_false, true_and, and_true, reduceIte, nZ0, nZ1, eτ0_55.1, eτ0_55.2, eτ0_60.1, eτ0_60.2, eτ0_64.1, eτ0_64.2, eτ0_65.1, eτ0_65.2, sτ0_34.1, sτ0_34.2, fun a k => (jτ0 a k).1, fun a k => (jτ0 a k).2]
              unfold w_X16_flush_136
              try simp only [forall_eq, rII, rIJ, rIP, rJJ, rJI, rJP, rPP, rPI, rPJ, g1, g2, g3, g4, g5, g6, g7, g8, Nat.reduceEqDiff, Nat.reduceAdd, false_and, and_false, true_and, and_true, reduceIte, nZ0, nZ1, eτ0_55.1, eτ0_55.2, eτ0_60.1, eτ0_60.2, eτ0_64.1, eτ0_64.2, eτ0_65.1, eτ0_65.2, sτ0_34.1, sτ0_34.2, fun a k => (jτ0 a k).1, fun a k => (jτ0 a k).2]
              refine ⟨by (first | omega | with_reducible assumption | (unfold rng; omega) | (unfold rng; (repeat' split) <;> omega) | grind), ?_⟩
              refine ⟨by (first | omega | with_reducible assumption | (unfold rng; omega) | (unfold rng; (repeat' split) <;> omega) | grind), ?_⟩
              refine ⟨by (first | omega | with_reducible assumption | (unfold rng; omega) | (unfold rng; (repeat' split) <;> omega) | grind), ?_⟩
              have q12 := rτ0.1 48 (v1.toNat); simp only [rgT] at q12
              have q13 := rτ0.2.1 67; simp only [rgS] at q13
              refine ⟨by (first | omega | with_reducible assumption | (unfold rng; omega) | (unfold rng; (repeat' split) <;> omega) | grind), ?_⟩
              refine ih0 _ ?_ ?_ ?_ ?_
              · refine Rg.sI g ?_ (by simp only [rgS]; first | with_reducible exact nZ_rng _ | with_reducible exact nB_rng _ | with_reducible exact wr_rng _ | with_reducible exact i32any _ | (first | omega | with_reducible assumption | (unfold rng; omega) | (unfold rng; (repeat' split) <;> omega) | grind)); refine Rg.aI g ?_ (by simp only [rgT]; first | with_reducible exact nZ_rng _ | with_reducible exact nB_rng _ | with_reducible exact wr_rng _ | with_reducible exact i32any _ | (first | omega | with_reducible assumption | (unfold rng; omega) | (unfold rng; (repeat' split) <;> omega) | grind)); refine Rg.aI g ?_ (by simp only [rgT]; first | with_reducible exact nZ_rng _ | with_reducible exact nB_rng _ | with_reducible exact wr_rng _ | with_reducible exact i32any _ | (first | omega | with_reducible assumption | (unfold rng; omega) | (unfold rng; (repeat' split) <;> omega) | grind)); refine Rg.aI g ?_ (by simp only [rgT]; first | with_reducible exact nZ_rng _ | with_reducible exact nB_rng _ | with_reducible exact wr_rng _ | with_reducible exact i32any _ | (first | omega | with_reducible assumption | (unfold rng; omega) | (unfold rng; (repeat' split) <;> omega) | grind)); refine Rg.aJ g ?_ (by simp only [rlT]; first | with_reducible assumption | omega | exact Int64.toInt_le _ | (rw [Int64.toInt_ofInt_of_le (by omega) (by omega)]; omega) | grind); refine Rg.aI g ?_ (by simp only [rgT]; first | with_reducible exact nZ_rng _ | with_reducible exact nB_rng _ | with_reducible exact wr_rng _ | with_reducible exact i32any _ | (first | omega | with_reducible assumption | (unfold rng; omega) | (unfold rng; (repeat' split) <;> omega) | grind)); refine Rg.aI g ?_ (by simp only [rgT]; first | with_reducible exact nZ_rng _ | with_reducible exact nB_rng _ | with_reducible exact wr_rng _ | with_reducible exact i32any _ | (first | omega | with_reducible assumption | (unfold rng; omega) | (unfold rng; (repeat' split) <;> omega) | grind)); exact rτ0
              · refine Fr.sI g ?_ (by decide); refine Fr.aI g ?_ (by decide); refine Fr.aI g ?_ (by decide); refine Fr.aI g ?_ (by decide); refine Fr.aJ g ?_ (by decide); refine Fr.aI g ?_ (by decide); refine Fr.aI g ?_ (by decide); exact fτ0
              · first | exact ⟨hth, hcm⟩ | (refine ⟨⟨_, _, _, _, hti.out (σ' := _) h1 rfl (by assumption) (c := gI σ (ra 64) (gI τ0 (ra 46) v1.toNat).toNat) (by omega) (by omega) ?_ ?_ ?_ ?_ ?_ ?_ ?_ ?_⟩, ?_⟩ <;> (intros; (try simp only [rII, rIJ, rIP, rJJ, rJI, rJP, rPP, rPI, rPJ, g1, g2, g3, g4, g5, g6, g7, g8, Nat.reduceEqDiff, Nat.reduceAdd, false_and, and_false, true_and, and_true, reduceIte, nZ0, nZ1, eτ0_55.1, eτ0_55.2, eτ0_60.1, eτ0_60.2, eτ0_64.1, eτ0_64.2, eτ0_65.1, eτ0_65.2, sτ0_34.1, sτ0_34.2, fun a k => (jτ0 a k).1, fun a k => (jτ0 a k).2, slo]) <;> (repeat' split) <;> first | omega | assumption | grind))
              · (try simp only [rII, rIJ, rIP, rJJ, rJI, rJP, rPP, rPI, rPJ, g1, g2, g3, g4, g5, g6, g7, g8, Nat.reduceEqDiff, Nat.reduceAdd, false_and, and_false, true_and, and_true, reduceIte, nZ0, nZ1, eτ0_55.1, eτ0_55.2, eτ0_60.1, eτ0_60.2, eτ0_64.1, eτ0_64.2, eτ0_65.1, eτ0_65.2, sτ0_34.1, sτ0_34.2, fun a k => (jτ0 a k).1, fun a k => (jτ0 a k).2]) <;> (first | omega | with_reducible assumption | (unfold rng; omega) | (unfold rng; (repeat' split) <;> omega) | grind)
          · rename_i hc89
            skip
            unfold w_X16_flush_92
            try simp only [forall_eq, rII, rIJ, rIP, rJJ, rJI, rJP, rPP, rPI, rPJ, g1, g2, g3, g4, g5, g6, g7, g8, Nat.reduceEqDiff, Nat.reduceAdd, false_and, and_false, true_and, and_true, reduceIte, nZ0, nZ1, eτ0_55.1, eτ0_55.2, eτ0_60.1, eτ0_60.2, eτ0_64.1, eτ0_64.2, eτ0_65.1, eτ0_65.2, sτ0_34.1, sτ0_34.2, fun a k => (jτ0 a k).1, fun a k => (jτ0 a k).2]
            unfold w_X16_flush_97
            try simp only [forall_eq, rII, rIJ, rIP, rJJ, rJI, rJP, rPP, rPI, rPJ, g1, g2, g3, g4, g5, g6, g7, g8, Nat.reduceEqDiff, Nat.reduceAdd, false_and, and_false, true_and, and_true, reduceIte, nZ0, nZ1, eτ0_55.1, eτ0_55.2, eτ0_60.1, eτ0_60.2, eτ0_64.1, eτ0_64.2, eτ0_65.1, eτ0_65.2, sτ0_34.1, sτ0_34.2, fun a k => (jτ0 a k).1, fun a k => (jτ0 a k).2]
            refine ⟨by (first | omega | with_reducible assumption | (unfold rng; omega) | (unfold rng; (repeat' split) <;> omega) | grind), ?_⟩
            refine ⟨by (first | omega | with_reducible assumption | (unfold rng; omega) | (unfold rng; (repeat' split) <;> omega) | grind), ?_⟩
            refine ⟨by (first | omega | with_reducible assumption | (unfold rng; omega) | (unfold rng; (repeat' split) <;> omega) | grind), ?_⟩
            have q14 := rσ.1 65 ((gI τ0 (ra 46) v1.toNat).toNat); simp only [rgT] at q14
            refine ⟨by (first | omega | with_reducible assumption | (unfold rng; omega) | (unfold rng; (repeat' split) <;> omega) | grind), ?_⟩
            split
            · rename_i hc123
              skip
              unfold w_X16_flush_130
              try simp only [forall_eq, rII, rIJ, rIP, rJJ, rJI, rJP, rPP, rPI, rPJ, g1, g2, g3, g4, g5, g6, g7, g8, Nat.reduceEqDiff, Nat.reduceAdd, false_and, and_false, true_and, and_true, reduceIte, nZ0, nZ1, eτ0_55.1, eτ0_55.2, eτ0_60.1, eτ0_60.2, eτ0_64.1, eτ0_64.2, eτ0_65.1, eτ0_65.2, sτ0_34.1, sτ0_34.2, fun a k => (jτ0 a k).1, fun a k => (jτ0 a k).2]
              refine ⟨by (first | omega | with_reducible assumption | (unfold rng; omega) | (unfold rng; (repeat' split) <;> omega) | grind), ?_⟩
              unfold w_X16_flush_136
              try simp only [forall_eq, rII, rIJ, rIP, rJJ, rJI, rJP, rPP, rPI, rPJ, g1, g2, g3, g4, g5, g6, g7, g8, Nat.reduceEqDiff, Nat.reduceAdd, false_and, and_false, true_and, and_true, reduceIte, nZ0, nZ1, eτ0_55.1, eτ0_55.2, eτ0_60.1, eτ0_60.2, eτ0_64.1, eτ0_64.2, eτ0_65.1, eτ0_65.2, sτ0_34.1, sτ0_34.2, fun a k => (jτ0 a k).1, fun a k => (jτ0 a k).2]
              refine ⟨by (first | omega | with_reducible assumption | (unfold rng; omega) | (unfold rng; (repeat' split) <;> omega) | grind), ?_⟩
              have q15 := rτ0.1 47 (v1.toNat); simp only [rgT] at q15
              refine ⟨by (first | omega | with_reducible assumption | (unfold rng; omega) | (unfold rng; (repeat' split) <;> omega) | grind), ?_⟩
              refine ⟨by (first | omega | with_reducible assumption | (unfold rng; omega) | (unfold rng; (repeat' split) <;> omega) | grind), ?_⟩
              have q16 := rτ0.1 48 (v1.toNat); simp only [rgT] at q16
              have q17 := rτ0.2.1 67; simp only [rgS] at q17
              refine ⟨by (first | omega | with_reducible assumption | (unfold rng; omega) | (unfold rng; (repeat' split) <;> omega) | grind), ?_⟩
              refine ih0 _ ?_ ?_ ?_ ?_
              · refine Rg.sI g ?_ (by simp only [rgS]; first | with_reducible exact nZ_rng _ | with_reducible exact nB_rng _ | with_reducible exact wr_rng _ | with_reducible exact i32any _ | (first | omega | with_reducible assumption | (unfold rng; omega) | (unfold rng; (repeat' split) <;> omega) | grind)); refine Rg.aI g ?_ (by simp only [rgT]; first | with_reducible exact nZ_rng _ | with_reducible exact nB_rng _ | with_reducible exact wr_rng _ | with_reducible exact i32any _ | (first | omega | with_reducible assumption | (unfold rng; omega) | (unfold rng; (repeat' split) <;> omega) | grind)); refine Rg.aI g ?_ (by simp only [rgT]; first | with_reducible exact nZ_rng _ | with_reducible exact nB_rng _ | with_reducible exact wr_rng _ | with_reducible exact i32any _ | (first | omega | with_reducible assumption | (unfold rng; omega) | (unfold rng; (repeat' split) <;> omega) | grind)); refine Rg.aI g ?_ (by simp only [rgT]; first | with_reducible exact nZ_rng _ | with_reducible exact nB_rng _ | with_reducible exact wr_rng _ | with_reducible exact i32any _ | (first | omega | with_reducible assumption | (unfold rng; omega) | (unfold rng; (repeat' split) <;> omega) | grind)); refine Rg.aJ g ?_ (by simp only [rlT]; first | with_reducible assumption | omega | exact Int64.toInt_le _ | (rw [Int64.toInt_ofInt_of_le (by omega) (by omega)]; omega) | grind); refine Rg.aI g ?_ (by simp only [rgT]; first | with_reducible exact nZ_rng _ | with_reducible exact nB_rng _ | with_reducible exact wr_rng _ | with_reducible exact i32any _ | (first | omega | with_reducible assumption | (unfold rng; omega) | (unfold rng; (repeat' split) <;> omega) | grind)); refine Rg.aI g ?_ (by simp only [rgT]; first | with_reducible exact nZ_rng _ | with_reducible exact nB_rng _ | with_reducible exact wr_rng _ | with_reducible exact i32any _ | (first | omega | with_reducible assumption | (unfold rng; omega) | (unfold rng; (repeat' split) <;> omega) | grind)); exact rτ0
              · refine Fr.sI g ?_ (by decide); refine Fr.aI g ?_ (by decide); refine Fr.aI g ?_ (by decide); refine Fr.aI g ?_ (by decide); refine Fr.aJ g ?_ (by decide); refine Fr.aI g ?_ (by decide); refine Fr.aI g ?_ (by decide); exact fτ0
              · first | exact ⟨hth, hcm⟩ | (refine ⟨⟨_, _, _, _, hti.out (σ' := _) h1 rfl (by assumption) (c := gI σ (ra 64) (gI τ0 (ra 46) v1.toNat).toNat) (by omega) (by omega) ?_ ?_ ?_ ?_ ?_ ?_ ?_ ?_⟩, ?_⟩ <;> (intros; (try simp only [rII, rIJ, rIP, rJJ, rJI, rJP, rPP, rPI, rPJ, g1, g2, g3, g4, g5, g6, g7, g8, Nat.reduceEqDiff, Nat.reduceAdd, false_and, and_false, true_and, and_true, reduceIte, nZ0, nZ1, eτ0_55.1, eτ0_55.2, eτ0_60.1, eτ0_60.2, eτ0_64.1, eτ0_64.2, eτ0_65.1, eτ0_65.2, sτ0_34.1, sτ0_34.2, fun a k => (jτ0 a k).1, fun a k => (jτ0 a k).2, slo]) <;> (repeat' split) <;> first | omega | assumption | grind))
              · (try simp only [rII, rIJ, rIP, rJJ, rJI, rJP, rPP, rPI, rPJ, g1, g2, g3, g4, g5, g6, g7, g8, Nat.reduceEqDiff, Nat.reduceAdd, false_and, and_false, true_and, and_true, reduceIte, nZ0, nZ1, eτ0_55.1, eτ0_55.2, eτ0_60.1, eτ0_60.2, eτ0_64.1, eτ0_64.2, eτ0_65.1, eτ0_65.2, sτ0_34.1, sτ0_34.2, fun a k => (jτ0 a k).1, fun a k => (jτ0 a k).2]) <;> (first | omega | with_reducible assumption | (unfold rng; omega) | (unfold rng; (repeat' split) <;> omega) | grind)
            · rename_i hc123
              skip
              unfold w_X16_flush_126
              try simp only [forall_eq, rII, rIJ, rIP, rJJ, rJI, rJP, rPP, rPI, rPJ, g1, g2, g3, g4, g5, g6, g7, g8, Nat.reduceEqDiff, Nat.reduceAdd, false_and, and_false, true_and, and_true, reduceIte, nZ0, nZ1, eτ0_55.1, eτ0_55.2, eτ0_60.1, eτ0_60.2, eτ0_64.1, eτ0_64.2, eτ0_65.1, eτ0_65.2, sτ0_34.1, sτ0_34.2, fun a k => (jτ0 a k).1, fun a k => (jτ0 a k).2]
              unfold w_X16_flush_136
              try simp only [forall_eq, rII, rIJ, rIP, rJJ, rJI, rJP, rPP, rPI, rPJ, g1, g2, g3, g4, g5, g6, g7, g8, Nat.reduceEqDiff, Nat.reduceAdd, false_and, and_false, true_and, and_true, reduceIte, nZ0, nZ1, eτ0_55.1, eτ0_55.2, eτ0_60.1, eτ0_60.2, eτ0_64.1, eτ0_64.2, eτ0_65.1, eτ0_65.2, sτ0_34.1, sτ0_34.2, fun a k => (jτ0 a k).1, fun a k => (jτ0 a k).2]
              refine ⟨by (first | omega | with_reducible assumption | (unfold rng; omega) | (unfold rng; (repeat' split) <;> omega) | grind), ?_⟩
              refine ⟨by (first | omega | with_reducible assumption | (unfold rng; omega) | (unfold rng; (repeat' split) <;> omega) | grind), ?_⟩
              refine ⟨by (first | omega | with_reducible assumption | (unfold rng; omega) | (unfold rng; (repeat' split) <;> omega) | grind), ?_⟩
              have q18 := rτ0.1 48 (v1.toNat); simp only [rgT] at q18
              have q19 := rτ0.2.1 67; simp only [rgS] at q19
              refine ⟨by (first | omega | with_reducible assumption | (unfold rng; omega) | (unfold rng; (repeat' split) <;> omega) | grind), ?_⟩
              refine ih0 _ ?_ ?_ ?_ ?_
              · refine Rg.sI g ?_ (by simp only [rgS]; first | with_reducible exact nZ_rng _ | with_reducible exact nB_rng _ | with_reducible exact wr_rng _ | with_reducible exact i32any _ | (first | omega | with_reducible assumption | (unfold rng; omega) | (unfold rng; (repeat' split) <;> omega) | grind)); refine Rg.aI g ?_ (by simp only [rgT]; first | with_reducible exact nZ_rng _ | with_reducible exact nB_rng _ | with_reducible exact wr_rng _ | with_reducible exact i32any _ | (first | omega | with_reducible assumption | (unfold rng; omega) | (unfold rng; (repeat' split) <;> omega) | grind)); refine Rg.aI g ?_ (by simp only [rgT]; first | with_reducible exact nZ_rng _ | with_reducible exact nB_rng _ | with_reducible exact wr_rng _ | with_reducible exact i32any _ | (first | omega | with_reducible assumption | (unfold rng; omega) | (unfold rng; (repeat' split) <;> omega) | grind)); refine Rg.aI g ?_ (by simp only [rgT]; first | with_reducible exact nZ_rng _ | with_reducible exact nB_rng _ | with_reducible exact wr_rng _ | with_reducible exact i32any _ | (first | omega | with_reducible assumption | (unfold rng; omega) | (unfold rng; (repeat' split) <;> omega) | grind)); refine Rg.aJ g ?_ (by simp only [rlT]; first | with_reducible assumption | omega | exact Int64.toInt_le _ | (rw [Int64.toInt_ofInt_of_le (by omega) (by omega)]; omega) | grind); refine Rg.aI g ?_ (by simp only [rgT]; first | with_reducible exact nZ_rng _ | with_reducible exact nB_rng _ | with_reducible exact wr_rng _ | with_reducible exact i32any _ | (first | omega | with_reducible assumption | (unfold rng; omega) | (unfold rng; (repeat' split) <;> omega) | grind)); refine Rg.aI g ?_ (by simp only [rgT]; first | with_reducible exact nZ_rng _ | with_reducible exact nB_rng _ | with_reducible exact wr_rng _ | with_reducible exact i32any _ | (first | omega | with_reducible assumption | (unfold rng; omega) | (unfold rng; (repeat' split) <;> omega) | grind)); exact rτ0
              · refine Fr.sI g ?_ (by decide); refine Fr.aI g ?_ (by decide); refine Fr.aI g ?_ (by decide); refine Fr.aI g ?_ (by decide); refine Fr.aJ g ?_ (by decide); refine Fr.aI g ?_ (by decide); refine Fr.aI g ?_ (by decide); exact fτ0
              · first | exact ⟨hth, hcm⟩ | (refine ⟨⟨_, _, _, _, hti.out (σ' := _) h1 rfl (by assumption) (c := gI σ (ra 64) (gI τ0 (ra 46) v1.toNat).toNat) (by omega) (by omega) ?_ ?_ ?_ ?_ ?_ ?_ ?_ ?_⟩, ?_⟩ <;> (intros; (try simp only [rII, rIJ, rIP, rJJ, rJI, rJP, rPP, rPI, rPJ, g1, g2, g3, g4, g5, g6, g7, g8, Nat.reduceEqDiff, Nat.reduceAdd, false_and, and_false, true_and, and_true, reduceIte, nZ0, nZ1, eτ0_55.1, eτ0_55.2, eτ0_60.1, eτ0_60.2, eτ0_64.1, eτ0_64.2, eτ0_65.1, eτ0_65.2, sτ0_34.1, sτ0_34.2, fun a k => (jτ0 a k).1, fun a k => (jτ0 a k).2, slo]) <;> (repeat' split) <;> first | omega | assumption | grind))
              · (try simp only [rII, rIJ, rIP, rJJ, rJI, rJP, rPP, rPI, rPJ, g1, g2, g3, g4, g5, g6, g7, g8, Nat.reduceEqDiff, Nat.reduceAdd, false_and, and_false, true_and, and_true, reduceIte, nZ0, nZ1, eτ0_55.1, eτ0_55.2, eτ0_60.1, eτ0_60.2, eτ0_64.1, eτ0_64.2, eτ0_65.1, eτ0_65.2, sτ0_34.1, sτ0_34.2, fun a k => (jτ0 a k).1, fun a k => (jτ0 a k).2]) <;> (first | omega | with_reducible assumption | (unfold rng; omega) | (unfold rng; (repeat' split) <;> omega) | grind)
        · rename_i hc34
          skip
          unfold w_X16_flush_37
          try simp only [forall_eq, rII, rIJ, rIP, rJJ, rJI, rJP, rPP, rPI, rPJ, g1, g2, g3, g4, g5, g6, g7, g8, Nat.reduceEqDiff, Nat.reduceAdd, false_and, and_false, true_and, and_true, reduceIte, nZ0, nZ1, eτ0_55.1, eτ0_55.2, eτ0_60.1, eτ0_60.2, eτ0_64.1, eτ0_64.2, eτ0_65.1, eτ0_65.2, sτ0_34.1, sτ0_34.2, fun a k => (jτ0 a k).1, fun a k => (jτ0 a k).2]
          refine hQ _ _ ?_ ?_ ?_
          · exact rτ0
          · exact fτ0
          · exact ⟨⟨_, _, _, _, hti⟩, hcm0⟩
  refine ⟨_, L0 _ _ ?_ ?_ ?_ (Nat.lt_succ_self _)⟩
  · exact rσ
  · exact fσ
  · first | exact ⟨hth, hcm⟩ | (refine ⟨⟨_, _, _, _, hti.out (σ' := _) h1 rfl (by assumption) (c := gI σ (ra 64) (gI τ0 (ra 46) v1.toNat).toNat) (by omega) (by omega) ?_ ?_ ?_ ?_ ?_ ?_ ?_ ?_⟩, ?_⟩ <;> (intros; (try simp only [rII, rIJ, rIP, rJJ, rJI, rJP, rPP, rPI, rPJ, g1, g2, g3, g4, g5, g6, g7, g8, Nat.reduceEqDiff, Nat.reduceAdd, false_and, and_false, true_and, and_true, reduceIte, nZ0, nZ1, slo]) <;> (repeat' split) <;> first | omega | assumption | grind))
set_option maxHeartbeats 1000000 in
theorem s_X16_hang {ra : Nat → Nat} {jx : Nat → Nat → Nat} {rm : Nat} {own : Int → Int} {ps : Int → Int} {mn : Int → Int} {la : Int → Int} {hd : Int} (g : Geo ra jx rm) {σ : Sg} {v1 : Int} {v2 : Int} (rσ : Rg ra jx rm σ) (hhe : HeG ra rm σ own ps mn la hd) (h1 : 0 ≤ v1 ∧ v1 < 12) (ho : own v2 = 99) (hla : la v1 = gI σ (ra 88) v1.toNat) (hmn : mn v1 = gI σ (ra 89) v1.toNat) (hhd : 0 < hd) {Q : Sg → Unit → Prop} {X : Sg → String → Prop} (hQ : ∀ (σ' : Sg) (r : Unit), Rg ra jx rm σ' → Fr ra jx rm [86, 87, 88, 89] [] σ σ' → (HeG ra rm σ' (up own v2 v1) (up ps v2 (mn v1)) (up mn v1 (mn v1 + 1)) (up la v1 v2) (hd - 1) ∧ gI σ' (ra 88) v1.toNat = v2 ∧ gI σ' (ra 89) v1.toNat = mn v1 + 1 ∧ (∀ S, 0 ≤ S ∧ S < 12 → S ≠ v1 → gI σ' (ra 88) S.toNat = gI σ (ra 88) S.toNat ∧ gI σ' (ra 89) S.toNat = gI σ (ra 89) S.toNat)) → Q σ' r) : wp_X16_hang ra jx rm v1 v2 σ Q X := by
  obtain ⟨g1, g2, g3, g4, g5, g6, g7, g8⟩ := id g
  have fσ : Fr ra jx rm [86, 87, 88, 89] [] σ σ := Fr.rf
  have h2 := hhe.2.2.1 v2 (by omega)
  have hls := hhe.ls h1
  have hbd := hhe.bd
  have hbd0 := hbd.2.2 v1 h1
  have hbd1 := hbd.1
  clear hbd
  unfold wp_X16_hang
  unfold w_X16_hang_0
  try simp only [forall_eq, rII, rIJ, rIP, rJJ, rJI, rJP, rPP, rPI, rPJ, g1, g2, g3, g4, g5, g6, g7, g8, Nat.reduceEqDiff, Nat.reduceAdd, false_and, and_false, true_and, and_true, reduceIte, nZ0, nZ1]
  refine ⟨by (first | omega | with_reducible assumption | (unfold rng; omega) | (unfold rng; (repeat' split) <;> omega) | grind), ?_⟩
  refine ⟨by (first | omega | with_reducible assumption | (unfold rng; omega) | (unfold rng; (repeat' split) <;> omega) | grind), ?_⟩
  have q1 := rσ.1 88 (v1.toNat); simp only [rgT] at q1
  split
  · rename_i hc14
    skip
    unfold w_X16_hang_27
    try simp only [forall_eq, rII, rIJ, rIP, rJJ, rJI, rJP, rPP, rPI, rPJ, g1, g2, g3, g4, g5, g6, g7, g8, Nat.reduceEqDiff, Nat.reduceAdd, false_and, and_false, true_and, and_true, reduceIte, nZ0, nZ1]
    refine ⟨by (first | omega | with_reducible assumption | (unfold rng; omega) | (unfold rng; (repeat' split) <;> omega) | grind), ?_⟩
    refine ⟨by (first | omega | with_reducible assumption | (unfold rng; omega) | (unfold rng; (repeat' split) <;> omega) | grind), ?_⟩
    unfold w_X16_hang_39
    try simp only [forall_eq, rII, rIJ, rIP, rJJ, rJI, rJP, rPP, rPI, rPJ, g1, g2, g3, g4, g5, g6, g7, g8, Nat.reduceEqDiff, Nat.reduceAdd, false_and, and_false, true_and, and_true, reduceIte, nZ0, nZ1]
    refine ⟨by (first | omega | with_reducible assumption | (unfold rng; omega) | (unfold rng; (repeat' split) <;> omega) | grind), ?_⟩
    refine ⟨by (first | omega | with_reducible assumption | (unfold rng; omega) | (unfold rng; (repeat' split) <;> omega) | grind), ?_⟩
    have q2 := rσ.1 89 (v1.toNat); simp only [rgT] at q2
    refine ⟨by (first | omega | with_reducible assumption | (unfold rng; omega) | (unfold rng; (repeat' split) <;> omega) | grind), ?_⟩
    refine ⟨by (first | omega | with_reducible assumption | (unfold rng; omega) | (unfold rng; (repeat' split) <;> omega) | grind), ?_⟩
    refine hQ _ _ ?_ ?_ ?_
    · refine Rg.aI g ?_ (by simp only [rgT]; first | with_reducible exact nZ_rng _ | with_reducible exact nB_rng _ | with_reducible exact wr_rng _ | with_reducible exact i32any _ | (first | omega | with_reducible assumption | (unfold rng; omega) | (unfold rng; (repeat' split) <;> omega) | grind)); refine Rg.aI g ?_ (by simp only [rgT]; first | with_reducible exact nZ_rng _ | with_reducible exact nB_rng _ | with_reducible exact wr_rng _ | with_reducible exact i32any _ | (first | omega | with_reducible assumption | (unfold rng; omega) | (unfold rng; (repeat' split) <;> omega) | grind)); refine Rg.aI g ?_ (by simp only [rgT]; first | with_reducible exact nZ_rng _ | with_reducible exact nB_rng _ | with_reducible exact wr_rng _ | with_reducible exact i32any _ | (first | omega | with_reducible assumption | (unfold rng; omega) | (unfold rng; (repeat' split) <;> omega) | grind)); refine Rg.aI g ?_ (by simp only [rgT]; first | with_reducible exact nZ_rng _ | with_reducible exact nB_rng _ | with_reducible exact wr_rng _ | with_reducible exact i32any _ | (first | omega | with_reducible assumption | (unfold rng; omega) | (unfold rng; (repeat' split) <;> omega) | grind)); exact rσ
    · refine Fr.aI g ?_ (by decide); refine Fr.aI g ?_ (by decide); refine Fr.aI g ?_ (by decide); refine Fr.aI g ?_ (by decide); exact fσ
    · refine ⟨hhe.app h1 ho ?_ ?_ ?_ ?_, ?_, ?_, ?_⟩ <;> (intros; (try simp only [rII, rIJ, rIP, rJJ, rJI, rJP, rPP, rPI, rPJ, g1, g2, g3, g4, g5, g6, g7, g8, Nat.reduceEqDiff, Nat.reduceAdd, false_and, and_false, true_and, and_true, reduceIte, nZ0, nZ1]) <;> (repeat' split) <;> first | omega | assumption | grind)
  · rename_i hc14
    skip
    unfold w_X16_hang_17
    try simp only [forall_eq, rII, rIJ, rIP, rJJ, rJI, rJP, rPP, rPI, rPJ, g1, g2, g3, g4, g5, g6, g7, g8, Nat.reduceEqDiff, Nat.reduceAdd, false_and, and_false, true_and, and_true, reduceIte, nZ0, nZ1]
    refine ⟨by (first | omega | with_reducible assumption | (unfold rng; omega) | (unfold rng; (repeat' split) <;> omega) | grind), ?_⟩
    unfold w_X16_hang_39
    try simp only [forall_eq, rII, rIJ, rIP, rJJ, rJI, rJP, rPP, rPI, rPJ, g1, g2, g3, g4, g5, g6, g7, g8, Nat.reduceEqDiff, Nat.reduceAdd, false_and, and_false, true_and, and_true, reduceIte, nZ0, nZ1]
    refine ⟨by (first | omega | with_reducible assumption | (unfold rng; omega) | (unfold rng; (repeat' split) <;> omega) | grind), ?_⟩
    refine ⟨by (first | omega | with_reducible assumption | (unfold rng; omega) | (unfold rng; (repeat' split) <;> omega) | grind), ?_⟩
    have q3 := rσ.1 89 (v1.toNat); simp only [rgT] at q3
    refine ⟨by (first | omega | with_reducible assumption | (unfold rng; omega) | (unfold rng; (repeat' split) <;> omega) | grind), ?_⟩
    refine ⟨by (first | omega | with_reducible assumption | (unfold rng; omega) | (unfold rng; (repeat' split) <;> omega) | grind), ?_⟩
    refine hQ _ _ ?_ ?_ ?_
    · refine Rg.aI g ?_ (by simp only [rgT]; first | with_reducible exact nZ_rng _ | with_reducible exact nB_rng _ | with_reducible exact wr_rng _ | with_reducible exact i32any _ | (first | omega | with_reducible assumption | (unfold rng; omega) | (unfold rng; (repeat' split) <;> omega) | grind)); refine Rg.aI g ?_ (by simp only [rgT]; first | with_reducible exact nZ_rng _ | with_reducible exact nB_rng _ | with_reducible exact wr_rng _ | with_reducible exact i32any _ | (first | omega | with_reducible assumption | (unfold rng; omega) | (unfold rng; (repeat' split) <;> omega) | grind)); refine Rg.aI g ?_ (by simp only [rgT]; first | with_reducible exact nZ_rng _ | with_reducible exact nB_rng _ | with_reducible exact wr_rng _ | with_reducible exact i32any _ | (first | omega | with_reducible assumption | (unfold rng; omega) | (unfold rng; (repeat' split) <;> omega) | grind)); refine Rg.aI g ?_ (by simp only [rgT]; first | with_reducible exact nZ_rng _ | with_reducible exact nB_rng _ | with_reducible exact wr_rng _ | with_reducible exact i32any _ | (first | omega | with_reducible assumption | (unfold rng; omega) | (unfold rng; (repeat' split) <;> omega) | grind)); exact rσ
    · refine Fr.aI g ?_ (by decide); refine Fr.aI g ?_ (by decide); refine Fr.aI g ?_ (by decide); refine Fr.aI g ?_ (by decide); exact fσ
    · refine ⟨hhe.app h1 ho ?_ ?_ ?_ ?_, ?_, ?_, ?_⟩ <;> (intros; (try simp only [rII, rIJ, rIP, rJJ, rJI, rJP, rPP, rPI, rPJ, g1, g2, g3, g4, g5, g6, g7, g8, Nat.reduceEqDiff, Nat.reduceAdd, false_and, and_false, true_and, and_true, reduceIte, nZ0, nZ1]) <;> (repeat' split) <;> first | omega | assumption | grind)
set_option maxHeartbeats 2000000 in
theorem s_X16_letGo {ra : Nat → Nat} {jx : Nat → Nat → Nat} {rm : Nat} (g : Geo ra jx rm) {σ : Sg} {v1 : Int} (rσ : Rg ra jx rm σ) (hhe : HeE ra rm σ) (h1 : 0 ≤ v1 ∧ v1 < 12) {Q : Sg → Unit → Prop} {X : Sg → String → Prop} (hQ : ∀ (σ' : Sg) (r : Unit), Rg ra jx rm σ' → Fr ra jx rm [86, 87, 88, 89] [90, 91] σ σ' → (HeE ra rm σ') → Q σ' r) : wp_X16_letGo ra jx rm v1 σ Q X := by
  obtain ⟨g1, g2, g3, g4, g5, g6, g7, g8⟩ := id g
  have fσ : Fr ra jx rm [86, 87, 88, 89] [90, 91] σ σ := Fr.rf
  obtain ⟨own0, ps0, mn0, la0, hG0, hA0⟩ := id hhe
  unfold wp_X16_letGo
  have L0 : ∀ (fu0 : Nat) (τ0 : Sg), Rg ra jx rm τ0 → Fr ra jx rm [86, 87, 88, 89] [90, 91] σ τ0 → (∃ own ps mn la, (HeG ra rm τ0 own ps mn la 0 ∧ HeA ra τ0 mn la v1) ∧ ((mn v1).toNat) < fu0) → (0) < 1 + 0 * 0 → wl_X16_letGo_0 ra jx rm Q X fu0 τ0 v1 := by
    intro fu0
    induction fu0 with
    | zero => intro τ0 _ _ h9 _; obtain ⟨_, _, _, _, h9⟩ := h9; omega
    | succ fu0 ih0 =>
      intro τ0 rτ0 fτ0 hi0 hm0
      obtain ⟨own, ps, mn, la, hi0, hm0⟩ := hi0
      unfold wl_X16_letGo_0
      have jτ0 := fτ0.2.2.1
      unfold w_X16_letGo_0
      try simp only [forall_eq, rII, rIJ, rIP, rJJ, rJI, rJP, rPP, rPI, rPJ, g1, g2, g3, g4, g5, g6, g7, g8, Nat.reduceEqDiff, Nat.reduceAdd, false_and, and_false, true_and, and_true, reduceIte, nZ0, nZ1, fun a k => (jτ0 a k).1, fun a k => (jτ0 a k).2]
      have hls := hi0.1.ls h1
      have hbd := hi0.1.bd
      have hbd0 := hbd.2.2 v1 h1
      have hbd1 := hbd.1
      clear hbd
      refine ⟨by (first | omega | with_reducible assumption | (unfold rng; omega) | (unfold rng; (repeat' split) <;> omega) | grind), ?_⟩
      have q1 := rτ0.1 87 (v1.toNat); simp only [rgT] at q1
      split
      · rename_i hc7
        skip
        unfold w_X16_letGo_57
        try simp only [forall_eq, rII, rIJ, rIP, rJJ, rJI, rJP, rPP, rPI, rPJ, g1, g2, g3, g4, g5, g6, g7, g8, Nat.reduceEqDiff, Nat.reduceAdd, false_and, and_false, true_and, and_true, reduceIte, nZ0, nZ1, fun a k => (jτ0 a k).1, fun a k => (jτ0 a k).2]
        refine ⟨by (first | omega | with_reducible assumption | (unfold rng; omega) | (unfold rng; (repeat' split) <;> omega) | grind), ?_⟩
        refine ⟨by (first | omega | with_reducible assumption | (unfold rng; omega) | (unfold rng; (repeat' split) <;> omega) | grind), ?_⟩
        refine hQ _ _ ?_ ?_ ?_
        · refine Rg.aI g ?_ (by simp only [rgT]; first | with_reducible exact nZ_rng _ | with_reducible exact nB_rng _ | with_reducible exact wr_rng _ | with_reducible exact i32any _ | (first | omega | with_reducible assumption | (unfold rng; omega) | (unfold rng; (repeat' split) <;> omega) | grind)); refine Rg.aI g ?_ (by simp only [rgT]; first | with_reducible exact nZ_rng _ | with_reducible exact nB_rng _ | with_reducible exact wr_rng _ | with_reducible exact i32any _ | (first | omega | with_reducible assumption | (unfold rng; omega) | (unfold rng; (repeat' split) <;> omega) | grind)); exact rτ0
        · refine Fr.aI g ?_ (by decide); refine Fr.aI g ?_ (by decide); exact fτ0
        · refine HeG.fin hi0 h1 (by assumption) ?_ ?_ ?_ ?_ ?_ ?_ <;> (intros; (try simp only [rII, rIJ, rIP, rJJ, rJI, rJP, rPP, rPI, rPJ, g1, g2, g3, g4, g5, g6, g7, g8, Nat.reduceEqDiff, Nat.reduceAdd, false_and, and_false, true_and, and_true, reduceIte, nZ0, nZ1, fun a k => (jτ0 a k).1, fun a k => (jτ0 a k).2]) <;> (repeat' split) <;> first | omega | assumption | grind)
      · rename_i hc7
        skip
        unfold w_X16_letGo_10
        try simp only [forall_eq, rII, rIJ, rIP, rJJ, rJI, rJP, rPP, rPI, rPJ, g1, g2, g3, g4, g5, g6, g7, g8, Nat.reduceEqDiff, Nat.reduceAdd, false_and, and_false, true_and, and_true, reduceIte, nZ0, nZ1, fun a k => (jτ0 a k).1, fun a k => (jτ0 a k).2]
        refine ⟨by (first | omega | with_reducible assumption | (unfold rng; omega) | (unfold rng; (repeat' split) <;> omega) | grind), ?_⟩
        refine ⟨by (first | omega | with_reducible assumption | (unfold rng; omega) | (unfold rng; (repeat' split) <;> omega) | grind), ?_⟩
        refine ⟨by (first | omega | with_reducible assumption | (unfold rng; omega) | (unfold rng; (repeat' split) <;> omega) | grind), ?_⟩
        have q2 := rτ0.1 86 ((gI τ0 (ra 87) v1.toNat).toNat); simp only [rgT] at q2
        refine ⟨by (first | omega | with_reducible assumption | (unfold rng; omega) | (unfold rng; (repeat' split) <;> omega) | grind), ?_⟩
        have q3 := rτ0.2.1 90; simp only [rgS] at q3
        have q4 := rτ0.2.1 91; simp only [rgS] at q4
        refine ⟨by (first | omega | with_reducible assumption | (unfold rng; omega) | (unfold rng; (repeat' split) <;> omega) | grind), ?_⟩
        refine ih0 _ ?_ ?_ ?_ ?_
        · refine Rg.sI g ?_ (by simp only [rgS]; first | with_reducible exact nZ_rng _ | with_reducible exact nB_rng _ | with_reducible exact wr_rng _ | with_reducible exact i32any _ | (first | omega | with_reducible assumption | (unfold rng; omega) | (unfold rng; (repeat' split) <;> omega) | grind)); refine Rg.sI g ?_ (by simp only [rgS]; first | with_reducible exact nZ_rng _ | with_reducible exact nB_rng _ | with_reducible exact wr_rng _ | with_reducible exact i32any _ | (first | omega | with_reducible assumption | (unfold rng; omega) | (unfold rng; (repeat' split) <;> omega) | grind)); refine Rg.aI g ?_ (by simp only [rgT]; first | with_reducible exact nZ_rng _ | with_reducible exact nB_rng _ | with_reducible exact wr_rng _ | with_reducible exact i32any _ | (first | omega | with_reducible assumption | (unfold rng; omega) | (unfold rng; (repeat' split) <;> omega) | grind)); refine Rg.aI g ?_ (by simp only [rgT]; first | with_reducible exact nZ_rng _ | with_reducible exact nB_rng _ | with_reducible exact wr_rng _ | with_reducible exact i32any _ | (first | omega | with_reducible assumption | (unfold rng; omega) | (unfold rng; (repeat' split) <;> omega) | grind)); exact rτ0
        · refine Fr.sI g ?_ (by decide); refine Fr.sI g ?_ (by decide); refine Fr.aI g ?_ (by decide); refine Fr.aI g ?_ (by decide); exact fτ0
        · refine HeG.let2 g hi0 hm0 h1 (by assumption) ?_ ?_ ?_ ?_ ?_ ?_ <;> (intros; (try simp only [rII, rIJ, rIP, rJJ, rJI, rJP, rPP, rPI, rPJ, g1, g2, g3, g4, g5, g6, g7, g8, Nat.reduceEqDiff, Nat.reduceAdd, false_and, and_false, true_and, and_true, reduceIte, nZ0, nZ1, fun a k => (jτ0 a k).1, fun a k => (jτ0 a k).2]) <;> (repeat' split) <;> first | omega | assumption | grind)
        · omega
  refine ⟨((mn0 v1).toNat) + 1, L0 _ _ ?_ ?_ ?_ (by omega)⟩
  · exact rσ
  · exact fσ
  · exact ⟨own0, ps0, mn0, la0, ⟨hG0, fun S hS _ => hA0 S hS⟩, by omega⟩
set_option maxHeartbeats 4000000 in
theorem s_X16_passOn {ra : Nat → Nat} {jx : Nat → Nat → Nat} {rm : Nat} (g : Geo ra jx rm) {σ : Sg} {v1 : Int} {v2 : Int} (rσ : Rg ra jx rm σ) (hhe : HeE ra rm σ) (h1 : 0 ≤ v1 ∧ v1 < 12) (h2 : 0 ≤ v2 ∧ v2 < 12) (h12 : v1 ≠ v2) {Q : Sg → Unit → Prop} {X : Sg → String → Prop} (hQ : ∀ (σ' : Sg) (r : Unit), Rg ra jx rm σ' → Fr ra jx rm [86, 87, 88, 89] [] σ σ' → (HeE ra rm σ') → Q σ' r) : wp_X16_passOn ra jx rm v1 v2 σ Q X := by
  obtain ⟨g1, g2, g3, g4, g5, g6, g7, g8⟩ := id g
  have fσ : Fr ra jx rm [86, 87, 88, 89] [] σ σ := Fr.rf
  obtain ⟨own0, ps0, mn0, la0, hG0, hA0⟩ := id hhe
  unfold wp_X16_passOn
  have L0 : ∀ (fu0 : Nat) (τ0 : Sg), Rg ra jx rm τ0 → Fr ra jx rm [86, 87, 88, 89] [] σ τ0 → (∃ own ps mn la, (HeG ra rm τ0 own ps mn la 0 ∧ HeA ra τ0 mn la v1) ∧ ((mn v1).toNat) < fu0) → (0) < 1 + 0 * 0 → wl_X16_passOn_0 ra jx rm Q X fu0 τ0 v1 v2 := by
    intro fu0
    induction fu0 with
    | zero => intro τ0 _ _ h9 _; obtain ⟨_, _, _, _, h9⟩ := h9; omega
    | succ fu0 ih0 =>
      intro τ0 rτ0 fτ0 hi0 hm0
      obtain ⟨own, ps, mn, la, hi0, hm0⟩ := hi0
      unfold wl_X16_passOn_0
      have jτ0 := fτ0.2.2.1
      unfold w_X16_passOn_0
      try simp only [forall_eq, rII, rIJ, rIP, rJJ, rJI, rJP, rPP, rPI, rPJ, g1, g2, g3, g4, g5, g6, g7, g8, Nat.reduceEqDiff, Nat.reduceAdd, false_and, and_false, true_and, and_true, reduceIte, nZ0, nZ1, fun a k => (jτ0 a k).1, fun a k => (jτ0 a k).2]
      have hls := hi0.1.ls h1
      have hA2 := hi0.2 v2 h2 (fun q => h12 q.symm)
      have hbd := hi0.1.bd
      have hbd0 := hbd.2.2 v1 h1
      have hbd1 := hbd.1
      clear hbd
      refine ⟨by (first | omega | with_reducible assumption | (unfold rng; omega) | (unfold rng; (repeat' split) <;> omega) | grind), ?_⟩
      have q1 := rτ0.1 87 (v1.toNat); simp only [rgT] at q1
      split
      · rename_i hc7
        skip
        unfold w_X16_passOn_38
        try simp only [forall_eq, rII, rIJ, rIP, rJJ, rJI, rJP, rPP, rPI, rPJ, g1, g2, g3, g4, g5, g6, g7, g8, Nat.reduceEqDiff, Nat.reduceAdd, false_and, and_false, true_and, and_true, reduceIte, nZ0, nZ1, fun a k => (jτ0 a k).1, fun a k => (jτ0 a k).2]
        refine ⟨by (first | omega | with_reducible assumption | (unfold rng; omega) | (unfold rng; (repeat' split) <;> omega) | grind), ?_⟩
        refine ⟨by (first | omega | with_reducible assumption | (unfold rng; omega) | (unfold rng; (repeat' split) <;> omega) | grind), ?_⟩
        refine hQ _ _ ?_ ?_ ?_
        · refine Rg.aI g ?_ (by simp only [rgT]; first | with_reducible exact nZ_rng _ | with_reducible exact nB_rng _ | with_reducible exact wr_rng _ | with_reducible exact i32any _ | (first | omega | with_reducible assumption | (unfold rng; omega) | (unfold rng; (repeat' split) <;> omega) | grind)); refine Rg.aI g ?_ (by simp only [rgT]; first | with_reducible exact nZ_rng _ | with_reducible exact nB_rng _ | with_reducible exact wr_rng _ | with_reducible exact i32any _ | (first | omega | with_reducible assumption | (unfold rng; omega) | (unfold rng; (repeat' split) <;> omega) | grind)); exact rτ0
        · refine Fr.aI g ?_ (by decide); refine Fr.aI g ?_ (by decide); exact fτ0
        · refine HeG.fin hi0 h1 (by assumption) ?_ ?_ ?_ ?_ ?_ ?_ <;> (intros; (try simp only [rII, rIJ, rIP, rJJ, rJI, rJP, rPP, rPI, rPJ, g1, g2, g3, g4, g5, g6, g7, g8, Nat.reduceEqDiff, Nat.reduceAdd, false_and, and_false, true_and, and_true, reduceIte, nZ0, nZ1, fun a k => (jτ0 a k).1, fun a k => (jτ0 a k).2]) <;> (repeat' split) <;> first | omega | assumption | grind)
      · rename_i hc7
        skip
        unfold w_X16_passOn_10
        try simp only [forall_eq, rII, rIJ, rIP, rJJ, rJI, rJP, rPP, rPI, rPJ, g1, g2, g3, g4, g5, g6, g7, g8, Nat.reduceEqDiff, Nat.reduceAdd, false_and, and_false, true_and, and_true, reduceIte, nZ0, nZ1, fun a k => (jτ0 a k).1, fun a k => (jτ0 a k).2]
        refine ⟨by (first | omega | with_reducible assumption | (unfold rng; omega) | (unfold rng; (repeat' split) <;> omega) | grind), ?_⟩
        refine ⟨by (first | omega | with_reducible assumption | (unfold rng; omega) | (unfold rng; (repeat' split) <;> omega) | grind), ?_⟩
        refine ⟨by (first | omega | with_reducible assumption | (unfold rng; omega) | (unfold rng; (repeat' split) <;> omega) | grind), ?_⟩
        have q2 := rτ0.1 86 ((gI τ0 (ra 87) v1.toNat).toNat); simp only [rgT] at q2
        refine s_X16_hang g (by refine Rg.aI g ?_ (by simp only [rgT]; first | with_reducible exact nZ_rng _ | with_reducible exact nB_rng _ | with_reducible exact wr_rng _ | with_reducible exact i32any _ | (first | omega | with_reducible assumption | (unfold rng; omega) | (unfold rng; (repeat' split) <;> omega) | grind)); exact rτ0) (hi0.1.cut (r := gI τ0 (ra 87) v1.toNat) (p := -1) h1 (by omega) (fun _ => by omega) (fun q => absurd rfl q) (by intros; simp only [rII, rIJ, rIP, rJJ, rJI, rJP, rPP, rPI, rPJ, g1, g2, g3, g4, g5, g6, g7, g8, Nat.reduceEqDiff, Nat.reduceAdd, false_and, and_false, true_and, and_true, reduceIte, nZ0, nZ1, fun a k => (jτ0 a k).1, fun a k => (jτ0 a k).2] <;> (repeat' split) <;> first | omega | grind) (by intros; simp only [rII, rIJ, rIP, rJJ, rJI, rJP, rPP, rPI, rPJ, g1, g2, g3, g4, g5, g6, g7, g8, Nat.reduceEqDiff, Nat.reduceAdd, false_and, and_false, true_and, and_true, reduceIte, nZ0, nZ1, fun a k => (jτ0 a k).1, fun a k => (jτ0 a k).2] <;> (repeat' split) <;> first | omega | grind) (by simp only [rII, rIJ, rIP, rJJ, rJI, rJP, rPP, rPI, rPJ, g1, g2, g3, g4, g5, g6, g7, g8, Nat.reduceEqDiff, Nat.reduceAdd, false_and, and_false, true_and, and_true, reduceIte, nZ0, nZ1, fun a k => (jτ0 a k).1, fun a k => (jτ0 a k).2]) (by simp only [rII, rIJ, rIP, rJJ, rJI, rJP, rPP, rPI, rPJ, g1, g2, g3, g4, g5, g6, g7, g8, Nat.reduceEqDiff, Nat.reduceAdd, false_and, and_false, true_and, and_true, reduceIte, nZ0, nZ1, fun a k => (jτ0 a k).1, fun a k => (jτ0 a k).2])) (by (try simp only [rII, rIJ, rIP, rJJ, rJI, rJP, rPP, rPI, rPJ, g1, g2, g3, g4, g5, g6, g7, g8, Nat.reduceEqDiff, Nat.reduceAdd, false_and, and_false, true_and, and_true, reduceIte, nZ0, nZ1, fun a k => (jτ0 a k).1, fun a k => (jτ0 a k).2]) <;> (first | omega | with_reducible assumption | (unfold rng; omega) | (unfold rng; (repeat' split) <;> omega) | grind)) (by simp [up]) (by simp only [rII, rIJ, rIP, rJJ, rJI, rJP, rPP, rPI, rPJ, g1, g2, g3, g4, g5, g6, g7, g8, Nat.reduceEqDiff, Nat.reduceAdd, false_and, and_false, true_and, and_true, reduceIte, nZ0, nZ1, fun a k => (jτ0 a k).1, fun a k => (jτ0 a k).2]; rw [if_neg (by omega)]; exact hA2.2) (by simp only [rII, rIJ, rIP, rJJ, rJI, rJP, rPP, rPI, rPJ, g1, g2, g3, g4, g5, g6, g7, g8, Nat.reduceEqDiff, Nat.reduceAdd, false_and, and_false, true_and, and_true, reduceIte, nZ0, nZ1, fun a k => (jτ0 a k).1, fun a k => (jτ0 a k).2, up]; rw [if_neg (by omega)]; exact hA2.1) (by omega) (fun σ12 _ rσ12 fc p3 => ?_)
        have fσ12 : Fr ra jx rm [86, 87, 88, 89] [] σ σ12 := Fr.tr (by refine Fr.aI g ?_ (by decide); exact fτ0) (Fr.mor (fc) (by decide) (by decide))
        have p9 := p3
        simp only [rII, rIJ, rIP, rJJ, rJI, rJP, rPP, rPI, rPJ, g1, g2, g3, g4, g5, g6, g7, g8, Nat.reduceEqDiff, Nat.reduceAdd, false_and, and_false, true_and, and_true, reduceIte, nZ0, nZ1, fun a k => (jτ0 a k).1, fun a k => (jτ0 a k).2] at p9
        have jσ12 := fσ12.2.2.1
        try simp only [forall_eq, rII, rIJ, rIP, rJJ, rJI, rJP, rPP, rPI, rPJ, g1, g2, g3, g4, g5, g6, g7, g8, Nat.reduceEqDiff, Nat.reduceAdd, false_and, and_false, true_and, and_true, reduceIte, nZ0, nZ1, fun a k => (jσ12 a k).1, fun a k => (jσ12 a k).2]
        refine ih0 _ ?_ ?_ ?_ ?_
        · exact rσ12
        · exact fσ12
        · exact HeG.pass p9 (by omega) hi0 hm0 h1 h2 h12 (by assumption)
        · omega
  refine ⟨((mn0 v1).toNat) + 1, L0 _ _ ?_ ?_ ?_ (by omega)⟩
  · exact rσ
  · exact fσ
  · exact ⟨own0, ps0, mn0, la0, ⟨hG0, fun S hS _ => hA0 S hS⟩, by omega⟩
set_option maxHeartbeats 4000000 in
theorem s_X16_pend {ra : Nat → Nat} {jx : Nat → Nat → Nat} {rm : Nat} (g : Geo ra jx rm) {σ : Sg} {v1 : Int} {v2 : Int64} {v4 : Int} {v5 : Int} (rσ : Rg ra jx rm σ) (hhe : HeE ra rm σ) (h1 : 0 ≤ v1 ∧ v1 < 4) (h2 : v2.toInt ≤ 4611686018427387904) (h5 : 0 ≤ v5 ∧ v5 < 30000) {Q : Sg → Unit → Prop} {X : Sg → String → Prop} (hQ : ∀ (σ' : Sg) (r : Unit), Rg ra jx rm σ' → Fr ra jx rm [83, 84, 85, 86, 87, 88, 89] [90, 91] σ σ' → (HeE ra rm σ') → Q σ' r) (hX : ∀ (σ' : Sg) (E : String), Rg ra jx rm σ' → Fr ra jx rm [83, 84, 85, 86, 87, 88, 89] [90, 91] σ σ' → (E = "StreamHouseModel$Broken" ∧ HeE ra rm σ') → X σ' E) : wp_X16_pend ra jx rm v1 v2 v4 v5 σ Q X := by
  obtain ⟨g1, g2, g3, g4, g5, g6, g7, g8⟩ := id g
  have fσ : Fr ra jx rm [83, 84, 85, 86, 87, 88, 89] [90, 91] σ σ := Fr.rf
  obtain ⟨own0, ps0, mn0, la0, hG0, hA0⟩ := id hhe
  have hbd := hG0.bd
  have hA1 := hA0 (3 * v1) (by omega)
  have hbd1 := hbd.1; have hbd2 := hbd.2.1; clear hbd
  have hfr := hG0.2.1.2.2.2.2
  have hnr := hG0.2.2.1 (gI σ rm 90)
  unfold wp_X16_pend
  unfold w_X16_pend_0
  try simp only [forall_eq, rII, rIJ, rIP, rJJ, rJI, rJP, rPP, rPI, rPJ, g1, g2, g3, g4, g5, g6, g7, g8, Nat.reduceEqDiff, Nat.reduceAdd, false_and, and_false, true_and, and_true, reduceIte, nZ0, nZ1]
  have q1 := rσ.2.1 91; simp only [rgS] at q1
  split
  · rename_i hc7
    skip
    unfold w_X16_pend_15
    try simp only [forall_eq, rII, rIJ, rIP, rJJ, rJI, rJP, rPP, rPI, rPJ, g1, g2, g3, g4, g5, g6, g7, g8, Nat.reduceEqDiff, Nat.reduceAdd, false_and, and_false, true_and, and_true, reduceIte, nZ0, nZ1]
    have hf9 := hfr (by omega)
    have hn9 := hnr (by omega)
    have q2 := rσ.2.1 90; simp only [rgS] at q2
    refine ⟨by (first | omega | with_reducible assumption | (unfold rng; omega) | (unfold rng; (repeat' split) <;> omega) | grind), ?_⟩
    have q3 := rσ.1 86 ((gI σ rm 90).toNat); simp only [rgT] at q3
    refine ⟨by (first | omega | with_reducible assumption | (unfold rng; omega) | (unfold rng; (repeat' split) <;> omega) | grind), ?_⟩
    refine ⟨by (first | omega | with_reducible assumption | (unfold rng; omega) | (unfold rng; (repeat' split) <;> omega) | grind), ?_⟩
    have L53 : ∀ (fu53 : Nat) (τ53 : Sg) (v7 : Int), Rg ra jx rm τ53 → Fr ra jx rm [83, 84, 85, 86, 87, 88, 89] [90, 91] σ τ53 → (0 ≤ v7 ∧ v7 ≤ 8 ∧ gI τ53 rm 90 = gI σ (ra 86) (gI σ rm 90).toNat ∧ gI τ53 rm 91 = gI σ rm 91 + 1 ∧ (∀ a, gI τ53 (ra 86) a = gI σ (ra 86) a) ∧ (∀ a, gI τ53 (ra 87) a = gI σ (ra 87) a) ∧ (∀ a, gI τ53 (ra 88) a = gI σ (ra 88) a) ∧ (∀ a, gI τ53 (ra 89) a = gI σ (ra 89) a)) → ((8 - v7).toNat) < fu53 → wl_X16_pend_53 ra jx rm Q X fu53 τ53 v1 v5 (gI σ rm 90) v7 := by
      intro fu53
      induction fu53 with
      | zero => intro τ53 _ _ _ _ h9; omega
      | succ fu53 ih53 =>
        intro τ53 v7 rτ53 fτ53 hi53 hm53
        unfold wl_X16_pend_53
        have eτ53_81 := fτ53.1 81 (by decide)
        have jτ53 := fτ53.2.2.1
        unfold w_X16_pend_53
        try simp only [forall_eq, rII, rIJ, rIP, rJJ, rJI, rJP, rPP, rPI, rPJ, g1, g2, g3, g4, g5, g6, g7, g8, Nat.reduceEqDiff, Nat.reduceAdd, false_and, and_false, true_and, and_true, reduceIte, nZ0, nZ1, eτ53_81.1, eτ53_81.2, fun a k => (jτ53 a k).1, fun a k => (jτ53 a k).2]
        have i1 := hi53.1; have i2 := hi53.2.1; have i3 := hi53.2.2.1; have i4 := hi53.2.2.2.1; have i5 := hi53.2.2.2.2.1; have i6 := hi53.2.2.2.2.2.1; have i7 := hi53.2.2.2.2.2.2.1; have i8 := hi53.2.2.2.2.2.2.2; clear hi53
        split
        · rename_i hc57
          skip
          unfold w_X16_pend_86
          try simp only [forall_eq, rII, rIJ, rIP, rJJ, rJI, rJP, rPP, rPI, rPJ, g1, g2, g3, g4, g5, g6, g7, g8, Nat.reduceEqDiff, Nat.reduceAdd, false_and, and_false, true_and, and_true, reduceIte, nZ0, nZ1, eτ53_81.1, eτ53_81.2, fun a k => (jτ53 a k).1, fun a k => (jτ53 a k).2]
          refine ⟨by (first | omega | with_reducible assumption | (unfold rng; omega) | (unfold rng; (repeat' split) <;> omega) | grind), ?_⟩
          refine ⟨by (first | omega | with_reducible assumption | (unfold rng; omega) | (unfold rng; (repeat' split) <;> omega) | grind), ?_⟩
          refine s_X16_hang g (by refine Rg.aI g ?_ (by simp only [rgT]; first | with_reducible exact nZ_rng _ | with_reducible exact nB_rng _ | with_reducible exact wr_rng _ | with_reducible exact i32any _ | (first | omega | with_reducible assumption | (unfold rng; omega) | (unfold rng; (repeat' split) <;> omega) | grind)); exact rτ53) (hG0.pop (by assumption) (by intros; simp only [rII, rIJ, rIP, rJJ, rJI, rJP, rPP, rPI, rPJ, g1, g2, g3, g4, g5, g6, g7, g8, Nat.reduceEqDiff, Nat.reduceAdd, false_and, and_false, true_and, and_true, reduceIte, nZ0, nZ1, eτ53_81.1, eτ53_81.2, fun a k => (jτ53 a k).1, fun a k => (jτ53 a k).2, i5]) (by intros; simp only [rII, rIJ, rIP, rJJ, rJI, rJP, rPP, rPI, rPJ, g1, g2, g3, g4, g5, g6, g7, g8, Nat.reduceEqDiff, Nat.reduceAdd, false_and, and_false, true_and, and_true, reduceIte, nZ0, nZ1, eτ53_81.1, eτ53_81.2, fun a k => (jτ53 a k).1, fun a k => (jτ53 a k).2, i6]) (by simp only [rII, rIJ, rIP, rJJ, rJI, rJP, rPP, rPI, rPJ, g1, g2, g3, g4, g5, g6, g7, g8, Nat.reduceEqDiff, Nat.reduceAdd, false_and, and_false, true_and, and_true, reduceIte, nZ0, nZ1, eτ53_81.1, eτ53_81.2, fun a k => (jτ53 a k).1, fun a k => (jτ53 a k).2, i3]) (by simp only [rII, rIJ, rIP, rJJ, rJI, rJP, rPP, rPI, rPJ, g1, g2, g3, g4, g5, g6, g7, g8, Nat.reduceEqDiff, Nat.reduceAdd, false_and, and_false, true_and, and_true, reduceIte, nZ0, nZ1, eτ53_81.1, eτ53_81.2, fun a k => (jτ53 a k).1, fun a k => (jτ53 a k).2, i4])) (by (try simp only [rII, rIJ, rIP, rJJ, rJI, rJP, rPP, rPI, rPJ, g1, g2, g3, g4, g5, g6, g7, g8, Nat.reduceEqDiff, Nat.reduceAdd, false_and, and_false, true_and, and_true, reduceIte, nZ0, nZ1, eτ53_81.1, eτ53_81.2, fun a k => (jτ53 a k).1, fun a k => (jτ53 a k).2]) <;> (first | omega | with_reducible assumption | (unfold rng; omega) | (unfold rng; (repeat' split) <;> omega) | grind)) (by simp [up]) (by simp only [rII, rIJ, rIP, rJJ, rJI, rJP, rPP, rPI, rPJ, g1, g2, g3, g4, g5, g6, g7, g8, Nat.reduceEqDiff, Nat.reduceAdd, false_and, and_false, true_and, and_true, reduceIte, nZ0, nZ1, eτ53_81.1, eτ53_81.2, fun a k => (jτ53 a k).1, fun a k => (jτ53 a k).2, i7]; exact hA1.2) (by simp only [rII, rIJ, rIP, rJJ, rJI, rJP, rPP, rPI, rPJ, g1, g2, g3, g4, g5, g6, g7, g8, Nat.reduceEqDiff, Nat.reduceAdd, false_and, and_false, true_and, and_true, reduceIte, nZ0, nZ1, eτ53_81.1, eτ53_81.2, fun a k => (jτ53 a k).1, fun a k => (jτ53 a k).2, i8]; exact hA1.1) (by omega) (fun σ17 _ rσ17 fc p4 => ?_)
          have fσ17 : Fr ra jx rm [83, 84, 85, 86, 87, 88, 89] [90, 91] σ σ17 := Fr.tr (by refine Fr.aI g ?_ (by decide); exact fτ53) (Fr.mor (fc) (by decide) (by decide))
          have p9 := p4
          simp only [rII, rIJ, rIP, rJJ, rJI, rJP, rPP, rPI, rPJ, g1, g2, g3, g4, g5, g6, g7, g8, Nat.reduceEqDiff, Nat.reduceAdd, false_and, and_false, true_and, and_true, reduceIte, nZ0, nZ1, eτ53_81.1, eτ53_81.2, fun a k => (jτ53 a k).1, fun a k => (jτ53 a k).2, i7, i8] at p9
          have eσ17_81 := fσ17.1 81 (by decide)
          have jσ17 := fσ17.2.2.1
          try simp only [forall_eq, rII, rIJ, rIP, rJJ, rJI, rJP, rPP, rPI, rPJ, g1, g2, g3, g4, g5, g6, g7, g8, Nat.reduceEqDiff, Nat.reduceAdd, false_and, and_false, true_and, and_true, reduceIte, nZ0, nZ1, eσ17_81.1, eσ17_81.2, fun a k => (jσ17 a k).1, fun a k => (jσ17 a k).2]
          refine hQ _ _ ?_ ?_ ?_
          · exact rσ17
          · exact fσ17
          · exact (HeG.pend p9 (by omega) hA0)
        · rename_i hc57
          skip
          unfold w_X16_pend_60
          try simp only [forall_eq, rII, rIJ, rIP, rJJ, rJI, rJP, rPP, rPI, rPJ, g1, g2, g3, g4, g5, g6, g7, g8, Nat.reduceEqDiff, Nat.reduceAdd, false_and, and_false, true_and, and_true, reduceIte, nZ0, nZ1, eτ53_81.1, eτ53_81.2, fun a k => (jτ53 a k).1, fun a k => (jτ53 a k).2]
          refine ⟨by (first | omega | with_reducible assumption | (unfold rng; omega) | (unfold rng; (repeat' split) <;> omega) | grind), ?_⟩
          refine ⟨by (first | omega | with_reducible assumption | (unfold rng; omega) | (unfold rng; (repeat' split) <;> omega) | grind), ?_⟩
          refine ⟨by (first | omega | with_reducible assumption | (unfold rng; omega) | (unfold rng; (repeat' split) <;> omega) | grind), ?_⟩
          refine ⟨by (first | omega | with_reducible assumption | (unfold rng; omega) | (unfold rng; (repeat' split) <;> omega) | grind), ?_⟩
          refine ⟨by (first | omega | with_reducible assumption | (unfold rng; omega) | (unfold rng; (repeat' split) <;> omega) | grind), ?_⟩
          refine ih53 _ _ ?_ ?_ ?_ ?_
          · refine Rg.aJ g ?_ (by simp only [rlT]; first | with_reducible assumption | omega | exact Int64.toInt_le _ | (rw [Int64.toInt_ofInt_of_le (by omega) (by omega)]; omega) | grind); exact rτ53
          · refine Fr.aJ g ?_ (by decide); exact fτ53
          · refine ⟨?_, ?_, ?_, ?_, ?_, ?_, ?_, ?_⟩ <;> (intros; (try simp only [rII, rIJ, rIP, rJJ, rJI, rJP, rPP, rPI, rPJ, g1, g2, g3, g4, g5, g6, g7, g8, Nat.reduceEqDiff, Nat.reduceAdd, false_and, and_false, true_and, and_true, reduceIte, nZ0, nZ1, eτ53_81.1, eτ53_81.2, fun a k => (jτ53 a k).1, fun a k => (jτ53 a k).2]) <;> (repeat' split) <;> first | omega | assumption | grind)
          · (try simp only [rII, rIJ, rIP, rJJ, rJI, rJP, rPP, rPI, rPJ, g1, g2, g3, g4, g5, g6, g7, g8, Nat.reduceEqDiff, Nat.reduceAdd, false_and, and_false, true_and, and_true, reduceIte, nZ0, nZ1, eτ53_81.1, eτ53_81.2, fun a k => (jτ53 a k).1, fun a k => (jτ53 a k).2]) <;> (first | omega | with_reducible assumption | (unfold rng; omega) | (unfold rng; (repeat' split) <;> omega) | grind)
    refine ⟨_, L53 _ _ _ ?_ ?_ ?_ (Nat.lt_succ_self _)⟩
    · refine Rg.aJ g ?_ (by simp only [rlT]; first | with_reducible assumption | omega | exact Int64.toInt_le _ | (rw [Int64.toInt_ofInt_of_le (by omega) (by omega)]; omega) | grind); refine Rg.sI g ?_ (by simp only [rgS]; first | with_reducible exact nZ_rng _ | with_reducible exact nB_rng _ | with_reducible exact wr_rng _ | with_reducible exact i32any _ | (first | omega | with_reducible assumption | (unfold rng; omega) | (unfold rng; (repeat' split) <;> omega) | grind)); refine Rg.sI g ?_ (by simp only [rgS]; first | with_reducible exact nZ_rng _ | with_reducible exact nB_rng _ | with_reducible exact wr_rng _ | with_reducible exact i32any _ | (first | omega | with_reducible assumption | (unfold rng; omega) | (unfold rng; (repeat' split) <;> omega) | grind)); exact rσ
    · refine Fr.aJ g ?_ (by decide); refine Fr.sI g ?_ (by decide); refine Fr.sI g ?_ (by decide); exact fσ
    · refine ⟨?_, ?_, ?_, ?_, ?_, ?_, ?_, ?_⟩ <;> (intros; (try simp only [rII, rIJ, rIP, rJJ, rJI, rJP, rPP, rPI, rPJ, g1, g2, g3, g4, g5, g6, g7, g8, Nat.reduceEqDiff, Nat.reduceAdd, false_and, and_false, true_and, and_true, reduceIte, nZ0, nZ1]) <;> (repeat' split) <;> first | omega | assumption | grind)
  · rename_i hc7
    skip
    unfold w_X16_pend_10
    try simp only [forall_eq, rII, rIJ, rIP, rJJ, rJI, rJP, rPP, rPI, rPJ, g1, g2, g3, g4, g5, g6, g7, g8, Nat.reduceEqDiff, Nat.reduceAdd, false_and, and_false, true_and, and_true, reduceIte, nZ0, nZ1]
    refine ⟨by simp, ?_⟩
    refine hX _ _ ?_ ?_ ?_
    · exact rσ
    · exact fσ
    · exact ⟨rfl, hhe⟩


set_option maxHeartbeats 2000000 in
theorem s2_X16_operatorOfOutput {ra : Nat → Nat} {jx : Nat → Nat → Nat} {rm : Nat} {ja : Nat} (g : Geo ra jx rm) {σ : Sg} {v1 : Int} (rσ : Rg ra jx rm σ) (hj : gP σ rm 17 = some ja) (hja : ja = ra 15 ∨ ja = ra 16) (h1 : 0 ≤ v1 ∧ v1 < gI σ ja 1) (hco : cO jx ja σ (gI σ ja 0) = gI σ ja 1 ∧ gI σ ja 1 ≤ 4 ∧ 1 ≤ gI σ ja 0 ∧ gI σ ja 0 ≤ 16) {Q : Sg → Int → Prop} {X : Sg → String → Prop} (hQ : ∀ (r : Int), (0 ≤ r ∧ r < gI σ ja 0 ∧ gI σ (jx ja 2) r.toNat = 11) → Q σ r) : wp_X16_operatorOfOutput ra jx rm v1 σ Q X := by
  obtain ⟨g1, g2, g3, g4, g5, g6, g7, g8⟩ := id g
  have fσ : Fr ra jx rm [] [] σ σ := Fr.rf
  unfold wp_X16_operatorOfOutput
  unfold w_X16_operatorOfOutput_0
  try simp only [forall_eq, rII, rIJ, rIP, rJJ, rJI, rJP, rPP, rPI, rPJ, g1, g2, g3, g4, g5, g6, g7, g8, Nat.reduceEqDiff, Nat.reduceAdd, false_and, and_false, true_and, and_true, reduceIte, nZ0, nZ1]
  have L4 : ∀ (fu4 : Nat) (v2 : Int) (v3 : Int), (0 ≤ v2 ∧ 0 ≤ v3 ∧ v3 ≤ 4 ∧ v3 + cO jx ja σ v2 = v1 ∧ v2 < gI σ ja 0) → ((gI σ ja 0 - v2).toNat) < fu4 → wl_X16_operatorOfOutput_4 ra jx rm Q X fu4 σ v2 v3 := by
    intro fu4
    induction fu4 with
    | zero => intro  _ _ _ h9; omega
    | succ fu4 ih4 =>
      intro v2 v3 hi4 hm4
      unfold wl_X16_operatorOfOutput_4
      unfold w_X16_operatorOfOutput_4
      try simp only [forall_eq, rII, rIJ, rIP, rJJ, rJI, rJP, rPP, rPI, rPJ, g1, g2, g3, g4, g5, g6, g7, g8, Nat.reduceEqDiff, Nat.reduceAdd, false_and, and_false, true_and, and_true, reduceIte, nZ0, nZ1]
      have c2 := cO_succ (jx := jx) (ja := ja) (σ := σ) (n := v2) (by omega)
      refine ⟨ja, by exact hj, hja, ?_⟩
      refine ⟨by (first | omega | with_reducible assumption | (unfold rng; omega) | (unfold rng; (repeat' split) <;> omega) | grind), ?_⟩
      have q2 := rσ.2.2.1 ja 2 (v2.toNat); simp only [rgJ] at q2
      split
      · rename_i hc15
        skip
        unfold w_X16_operatorOfOutput_22
        try simp only [forall_eq, rII, rIJ, rIP, rJJ, rJI, rJP, rPP, rPI, rPJ, g1, g2, g3, g4, g5, g6, g7, g8, Nat.reduceEqDiff, Nat.reduceAdd, false_and, and_false, true_and, and_true, reduceIte, nZ0, nZ1]
        refine ⟨ja, by exact hj, hja, ?_⟩
        refine ⟨by (first | omega | with_reducible assumption | (unfold rng; omega) | (unfold rng; (repeat' split) <;> omega) | grind), ?_⟩
        rw [if_pos hc15]
        unfold w_X16_operatorOfOutput_41
        try simp only [forall_eq, rII, rIJ, rIP, rJJ, rJI, rJP, rPP, rPI, rPJ, g1, g2, g3, g4, g5, g6, g7, g8, Nat.reduceEqDiff, Nat.reduceAdd, false_and, and_false, true_and, and_true, reduceIte, nZ0, nZ1]
        unfold w_X16_operatorOfOutput_42
        try simp only [forall_eq, rII, rIJ, rIP, rJJ, rJI, rJP, rPP, rPI, rPJ, g1, g2, g3, g4, g5, g6, g7, g8, Nat.reduceEqDiff, Nat.reduceAdd, false_and, and_false, true_and, and_true, reduceIte, nZ0, nZ1]
        refine ⟨by (first | omega | with_reducible assumption | (unfold rng; omega) | (unfold rng; (repeat' split) <;> omega) | grind), ?_⟩
        refine ⟨by (first | omega | with_reducible assumption | (unfold rng; omega) | (unfold rng; (repeat' split) <;> omega) | grind), ?_⟩
        refine ih4 _ _ ?_ ?_
        · first | (refine ⟨by omega, by omega, by omega, ?_, by omega⟩; rw [cO_zero]; omega) | (refine ⟨by omega, by omega, by omega, by omega, ?_⟩; by_cases w9 : v2 + 1 < gI σ ja 0; exact w9; have m9 := cO_mono (jx := jx) (ja := ja) (σ := σ) (n := gI σ ja 0) (m := v2 + 1) (by omega) (by omega); omega)
        · (try simp only [rII, rIJ, rIP, rJJ, rJI, rJP, rPP, rPI, rPJ, g1, g2, g3, g4, g5, g6, g7, g8, Nat.reduceEqDiff, Nat.reduceAdd, false_and, and_false, true_and, and_true, reduceIte, nZ0, nZ1]) <;> (first | omega | with_reducible assumption | (unfold rng; omega) | (unfold rng; (repeat' split) <;> omega) | grind)
      · rename_i hc15
        skip
        unfold w_X16_operatorOfOutput_18
        try simp only [forall_eq, rII, rIJ, rIP, rJJ, rJI, rJP, rPP, rPI, rPJ, g1, g2, g3, g4, g5, g6, g7, g8, Nat.reduceEqDiff, Nat.reduceAdd, false_and, and_false, true_and, and_true, reduceIte, nZ0, nZ1]
        split
        · rename_i hc19
          skip
          unfold w_X16_operatorOfOutput_50
          try simp only [forall_eq, rII, rIJ, rIP, rJJ, rJI, rJP, rPP, rPI, rPJ, g1, g2, g3, g4, g5, g6, g7, g8, Nat.reduceEqDiff, Nat.reduceAdd, false_and, and_false, true_and, and_true, reduceIte, nZ0, nZ1]
          refine hQ _ ?_
          · (try simp only [rII, rIJ, rIP, rJJ, rJI, rJP, rPP, rPI, rPJ, g1, g2, g3, g4, g5, g6, g7, g8, Nat.reduceEqDiff, Nat.reduceAdd, false_and, and_false, true_and, and_true, reduceIte, nZ0, nZ1]) <;> (first | omega | with_reducible assumption | (unfold rng; omega) | (unfold rng; (repeat' split) <;> omega) | grind)
        · rename_i hc19
          skip
          unfold w_X16_operatorOfOutput_22
          try simp only [forall_eq, rII, rIJ, rIP, rJJ, rJI, rJP, rPP, rPI, rPJ, g1, g2, g3, g4, g5, g6, g7, g8, Nat.reduceEqDiff, Nat.reduceAdd, false_and, and_false, true_and, and_true, reduceIte, nZ0, nZ1]
          refine ⟨ja, by exact hj, hja, ?_⟩
          refine ⟨by (first | omega | with_reducible assumption | (unfold rng; omega) | (unfold rng; (repeat' split) <;> omega) | grind), ?_⟩
          rw [if_neg hc15]
          unfold w_X16_operatorOfOutput_37
          try simp only [forall_eq, rII, rIJ, rIP, rJJ, rJI, rJP, rPP, rPI, rPJ, g1, g2, g3, g4, g5, g6, g7, g8, Nat.reduceEqDiff, Nat.reduceAdd, false_and, and_false, true_and, and_true, reduceIte, nZ0, nZ1]
          unfold w_X16_operatorOfOutput_42
          try simp only [forall_eq, rII, rIJ, rIP, rJJ, rJI, rJP, rPP, rPI, rPJ, g1, g2, g3, g4, g5, g6, g7, g8, Nat.reduceEqDiff, Nat.reduceAdd, false_and, and_false, true_and, and_true, reduceIte, nZ0, nZ1]
          refine ⟨by (first | omega | with_reducible assumption | (unfold rng; omega) | (unfold rng; (repeat' split) <;> omega) | grind), ?_⟩
          refine ⟨by (first | omega | with_reducible assumption | (unfold rng; omega) | (unfold rng; (repeat' split) <;> omega) | grind), ?_⟩
          refine ih4 _ _ ?_ ?_
          · first | (refine ⟨by omega, by omega, by omega, ?_, by omega⟩; rw [cO_zero]; omega) | (refine ⟨by omega, by omega, by omega, by omega, ?_⟩; by_cases w9 : v2 + 1 < gI σ ja 0; exact w9; have m9 := cO_mono (jx := jx) (ja := ja) (σ := σ) (n := gI σ ja 0) (m := v2 + 1) (by omega) (by omega); omega)
          · (try simp only [rII, rIJ, rIP, rJJ, rJI, rJP, rPP, rPI, rPJ, g1, g2, g3, g4, g5, g6, g7, g8, Nat.reduceEqDiff, Nat.reduceAdd, false_and, and_false, true_and, and_true, reduceIte, nZ0, nZ1]) <;> (first | omega | with_reducible assumption | (unfold rng; omega) | (unfold rng; (repeat' split) <;> omega) | grind)
  refine ⟨_, L4 _ _ _ ?_ (Nat.lt_succ_self _)⟩
  · first | (refine ⟨by omega, by omega, by omega, ?_, by omega⟩; rw [cO_zero]; omega) | (refine ⟨by omega, by omega, by omega, by omega, ?_⟩; by_cases w9 : v2 + 1 < gI σ ja 0; exact w9; have m9 := cO_mono (jx := jx) (ja := ja) (σ := σ) (n := gI σ ja 0) (m := v2 + 1) (by omega) (by omega); omega)
set_option maxHeartbeats 4000000 in
theorem s_X16_passOver {ra : Nat → Nat} {jx : Nat → Nat → Nat} {rm : Nat} {ja : Nat} {b : Int} {A : Int} (g : Geo ra jx rm) {σ : Sg} {v1 : Int} (rσ : Rg ra jx rm σ) (hj : gP σ rm 17 = some ja) (hja : ja = ra 15 ∨ ja = ra 16) (hpt : PtI ra rm σ b A) (hA : 1000000 ≤ A ∧ A ≤ 2000000) (hjo : JobOK jx ja σ) (h1 : 0 ≤ v1 ∧ v1 < gI σ ja 0) (hbq : b = gI σ rm 117) (hfi : ∀ j : Int, 0 ≤ j → j < v1 → gI σ (ra 118) (j + 1).toNat ≤ b) {Q : Sg → Unit → Prop} {X : Sg → String → Prop} (hQ : ∀ (σ' : Sg) (r : Unit), Rg ra jx rm σ' → Fr ra jx rm [20, 81, 82, 115, 116, 119, 120, 121, 122] [21, 117] σ σ' → (PtI ra rm σ' b A) → Q σ' r) (hX : ∀ (σ' : Sg) (E : String), Rg ra jx rm σ' → Fr ra jx rm [20, 81, 82, 115, 116, 119, 120, 121, 122] [21, 117] σ σ' → (E = "StreamHouseModel$Broken") → X σ' E) : wp_X16_passOver ra jx rm v1 σ Q X := by
  obtain ⟨g1, g2, g3, g4, g5, g6, g7, g8⟩ := id g
  have fσ : Fr ra jx rm [20, 81, 82, 115, 116, 119, 120, 121, 122] [21, 117] σ σ := Fr.rf
  have hmm := hjo.1
  have opk := hjo.2.2 v1 h1.1 h1.2
  have c11 := opk.2.2.2.2.2.2.2.2.2.2.1
  have c12 := opk.2.2.2.2.2.2.2.2.2.2.2
  have q4 := rσ.2.2.1 ja 4 v1.toNat; simp only [rgJ] at q4
  have q5 := rσ.2.2.1 ja 5 v1.toNat; simp only [rgJ] at q5
  unfold wp_X16_passOver
  unfold w_X16_passOver_0
  try simp only [forall_eq, rII, rIJ, rIP, rJJ, rJI, rJP, rPP, rPI, rPJ, g1, g2, g3, g4, g5, g6, g7, g8, Nat.reduceEqDiff, Nat.reduceAdd, false_and, and_false, true_and, and_true, reduceIte, nZ0, nZ1]
  refine ⟨ja, by exact hj, hja, ?_⟩
  refine ⟨by (first | omega | with_reducible assumption | (unfold rng; omega) | (unfold rng; (repeat' split) <;> omega)), ?_⟩
  refine ⟨ja, by exact hj, hja, ?_⟩
  refine ⟨by (first | omega | with_reducible assumption | (unfold rng; omega) | (unfold rng; (repeat' split) <;> omega)), ?_⟩
  have q1 := rσ.2.2.1 ja 2 (v1.toNat); simp only [rgJ] at q1
  by_cases hc19_0 : (gI σ (jx ja 2) v1.toNat) = 0
  · rw [if_pos hc19_0]
    unfold w_X16_passOver_76
    try simp only [forall_eq, rII, rIJ, rIP, rJJ, rJI, rJP, rPP, rPI, rPJ, g1, g2, g3, g4, g5, g6, g7, g8, Nat.reduceEqDiff, Nat.reduceAdd, false_and, and_false, true_and, and_true, reduceIte, nZ0, nZ1]
    have c3 := opk.2.2.1 (by omega)
    have pt9 := hpt
    refine s2_X16_passSource g rσ (by first | exact hj | (rw [fσ.2.2.2]; exact hj)) hja (by (try simp only [rII, rIJ, rIP, rJJ, rJI, rJP, rPP, rPI, rPJ, g1, g2, g3, g4, g5, g6, g7, g8, Nat.reduceEqDiff, Nat.reduceAdd, false_and, and_false, true_and, and_true, reduceIte, nZ0, nZ1]) <;> (first | omega | with_reducible assumption | (unfold rng; omega) | (unfold rng; (repeat' split) <;> omega))) (by omega) (by omega) (by exact pt9) hA (fun σ33 _ rσ33 fc p2 => ?_) (fun σx E rx fx px => hX _ _ rx (Fr.tr fσ (Fr.mor (fx) (by decide) (by decide))) px)
    have fσ33 : Fr ra jx rm [20, 81, 82, 115, 116, 119, 120, 121, 122] [21, 117] σ σ33 := Fr.tr fσ (Fr.mor (fc) (by decide) (by decide))
    have pt9 := p2.1
    have eσ33_118 := fσ33.1 118 (by decide)
    have jσ33 := fσ33.2.2.1
    have pσ33 := fσ33.2.2.2
    try simp only [forall_eq, rII, rIJ, rIP, rJJ, rJI, rJP, rPP, rPI, rPJ, g1, g2, g3, g4, g5, g6, g7, g8, Nat.reduceEqDiff, Nat.reduceAdd, false_and, and_false, true_and, and_true, reduceIte, nZ0, nZ1, eσ33_118.1, eσ33_118.2, fun a k => (jσ33 a k).1, fun a k => (jσ33 a k).2, pσ33]
    unfold w_X16_passOver_188
    try simp only [forall_eq, rII, rIJ, rIP, rJJ, rJI, rJP, rPP, rPI, rPJ, g1, g2, g3, g4, g5, g6, g7, g8, Nat.reduceEqDiff, Nat.reduceAdd, false_and, and_false, true_and, and_true, reduceIte, nZ0, nZ1, eσ33_118.1, eσ33_118.2, fun a k => (jσ33 a k).1, fun a k => (jσ33 a k).2, pσ33]
    refine hQ _ _ ?_ ?_ ?_
    · exact rσ33
    · exact fσ33
    · first | exact pt9 | exact hpt
  · rw [if_neg hc19_0]
    by_cases hc19_1 : (gI σ (jx ja 2) v1.toNat) = 1
    · rw [if_pos hc19_1]
      unfold w_X16_passOver_84
      try simp only [forall_eq, rII, rIJ, rIP, rJJ, rJI, rJP, rPP, rPI, rPJ, g1, g2, g3, g4, g5, g6, g7, g8, Nat.reduceEqDiff, Nat.reduceAdd, false_and, and_false, true_and, and_true, reduceIte, nZ0, nZ1]
      have c1 := opk.1 (by omega)
      have fi9 := hfi (gI σ (jx ja 4) v1.toNat) (by omega) (by omega)
      have pt9 := hpt
      have q3 := rσ.2.2.1 ja 4 (v1.toNat); simp only [rgJ] at q3
      refine s2_X16_passEach g rσ (by first | exact hj | (rw [fσ.2.2.2]; exact hj)) hja (by (try simp only [rII, rIJ, rIP, rJJ, rJI, rJP, rPP, rPI, rPJ, g1, g2, g3, g4, g5, g6, g7, g8, Nat.reduceEqDiff, Nat.reduceAdd, false_and, and_false, true_and, and_true, reduceIte, nZ0, nZ1]) <;> (first | omega | with_reducible assumption | (unfold rng; omega) | (unfold rng; (repeat' split) <;> omega))) (by (try simp only [rII, rIJ, rIP, rJJ, rJI, rJP, rPP, rPI, rPJ, g1, g2, g3, g4, g5, g6, g7, g8, Nat.reduceEqDiff, Nat.reduceAdd, false_and, and_false, true_and, and_true, reduceIte, nZ0, nZ1]) <;> (first | omega | with_reducible assumption | (unfold rng; omega) | (unfold rng; (repeat' split) <;> omega))) (by (try simp only [rII, rIJ, rIP, rJJ, rJI, rJP, rPP, rPI, rPJ, g1, g2, g3, g4, g5, g6, g7, g8, Nat.reduceEqDiff, Nat.reduceAdd, false_and, and_false, true_and, and_true, reduceIte, nZ0, nZ1]) <;> first | exact fun _ => opk.2.2.2.1 (by omega) | exact fun q => absurd (by assumption) q) (by exact pt9) hA (by (try simp only [rII, rIJ, rIP, rJJ, rJI, rJP, rPP, rPI, rPJ, g1, g2, g3, g4, g5, g6, g7, g8, Nat.reduceEqDiff, Nat.reduceAdd, false_and, and_false, true_and, and_true, reduceIte, nZ0, nZ1]) <;> first | exact fi9 | exact fi8) (fun σ34 _ rσ34 fc p4 => ?_) (fun σx E rx fx px => hX _ _ rx (Fr.tr fσ (Fr.mor (fx) (by decide) (by decide))) px)
      have fσ34 : Fr ra jx rm [20, 81, 82, 115, 116, 119, 120, 121, 122] [21, 117] σ σ34 := Fr.tr fσ (Fr.mor (fc) (by decide) (by decide))
      have pt9 := p4.1
      have eσ34_118 := fσ34.1 118 (by decide)
      have jσ34 := fσ34.2.2.1
      have pσ34 := fσ34.2.2.2
      try simp only [forall_eq, rII, rIJ, rIP, rJJ, rJI, rJP, rPP, rPI, rPJ, g1, g2, g3, g4, g5, g6, g7, g8, Nat.reduceEqDiff, Nat.reduceAdd, false_and, and_false, true_and, and_true, reduceIte, nZ0, nZ1, eσ34_118.1, eσ34_118.2, fun a k => (jσ34 a k).1, fun a k => (jσ34 a k).2, pσ34]
      unfold w_X16_passOver_188
      try simp only [forall_eq, rII, rIJ, rIP, rJJ, rJI, rJP, rPP, rPI, rPJ, g1, g2, g3, g4, g5, g6, g7, g8, Nat.reduceEqDiff, Nat.reduceAdd, false_and, and_false, true_and, and_true, reduceIte, nZ0, nZ1, eσ34_118.1, eσ34_118.2, fun a k => (jσ34 a k).1, fun a k => (jσ34 a k).2, pσ34]
      refine hQ _ _ ?_ ?_ ?_
      · exact rσ34
      · exact fσ34
      · first | exact pt9 | exact hpt
    · rw [if_neg hc19_1]
      by_cases hc19_2 : (gI σ (jx ja 2) v1.toNat) = 2
      · rw [if_pos hc19_2]
        unfold w_X16_passOver_84
        try simp only [forall_eq, rII, rIJ, rIP, rJJ, rJI, rJP, rPP, rPI, rPJ, g1, g2, g3, g4, g5, g6, g7, g8, Nat.reduceEqDiff, Nat.reduceAdd, false_and, and_false, true_and, and_true, reduceIte, nZ0, nZ1]
        have c1 := opk.1 (by omega)
        have fi9 := hfi (gI σ (jx ja 4) v1.toNat) (by omega) (by omega)
        have pt9 := hpt
        have q5 := rσ.2.2.1 ja 4 (v1.toNat); simp only [rgJ] at q5
        refine s2_X16_passEach g rσ (by first | exact hj | (rw [fσ.2.2.2]; exact hj)) hja (by (try simp only [rII, rIJ, rIP, rJJ, rJI, rJP, rPP, rPI, rPJ, g1, g2, g3, g4, g5, g6, g7, g8, Nat.reduceEqDiff, Nat.reduceAdd, false_and, and_false, true_and, and_true, reduceIte, nZ0, nZ1]) <;> (first | omega | with_reducible assumption | (unfold rng; omega) | (unfold rng; (repeat' split) <;> omega))) (by (try simp only [rII, rIJ, rIP, rJJ, rJI, rJP, rPP, rPI, rPJ, g1, g2, g3, g4, g5, g6, g7, g8, Nat.reduceEqDiff, Nat.reduceAdd, false_and, and_false, true_and, and_true, reduceIte, nZ0, nZ1]) <;> (first | omega | with_reducible assumption | (unfold rng; omega) | (unfold rng; (repeat' split) <;> omega))) (by (try simp only [rII, rIJ, rIP, rJJ, rJI, rJP, rPP, rPI, rPJ, g1, g2, g3, g4, g5, g6, g7, g8, Nat.reduceEqDiff, Nat.reduceAdd, false_and, and_false, true_and, and_true, reduceIte, nZ0, nZ1]) <;> first | exact fun _ => opk.2.2.2.1 (by omega) | exact fun q => absurd (by assumption) q) (by exact pt9) hA (by (try simp only [rII, rIJ, rIP, rJJ, rJI, rJP, rPP, rPI, rPJ, g1, g2, g3, g4, g5, g6, g7, g8, Nat.reduceEqDiff, Nat.reduceAdd, false_and, and_false, true_and, and_true, reduceIte, nZ0, nZ1]) <;> first | exact fi9 | exact fi8) (fun σ35 _ rσ35 fc p6 => ?_) (fun σx E rx fx px => hX _ _ rx (Fr.tr fσ (Fr.mor (fx) (by decide) (by decide))) px)
        have fσ35 : Fr ra jx rm [20, 81, 82, 115, 116, 119, 120, 121, 122] [21, 117] σ σ35 := Fr.tr fσ (Fr.mor (fc) (by decide) (by decide))
        have pt9 := p6.1
        have eσ35_118 := fσ35.1 118 (by decide)
        have jσ35 := fσ35.2.2.1
        have pσ35 := fσ35.2.2.2
        try simp only [forall_eq, rII, rIJ, rIP, rJJ, rJI, rJP, rPP, rPI, rPJ, g1, g2, g3, g4, g5, g6, g7, g8, Nat.reduceEqDiff, Nat.reduceAdd, false_and, and_false, true_and, and_true, reduceIte, nZ0, nZ1, eσ35_118.1, eσ35_118.2, fun a k => (jσ35 a k).1, fun a k => (jσ35 a k).2, pσ35]
        unfold w_X16_passOver_188
        try simp only [forall_eq, rII, rIJ, rIP, rJJ, rJI, rJP, rPP, rPI, rPJ, g1, g2, g3, g4, g5, g6, g7, g8, Nat.reduceEqDiff, Nat.reduceAdd, false_and, and_false, true_and, and_true, reduceIte, nZ0, nZ1, eσ35_118.1, eσ35_118.2, fun a k => (jσ35 a k).1, fun a k => (jσ35 a k).2, pσ35]
        refine hQ _ _ ?_ ?_ ?_
        · exact rσ35
        · exact fσ35
        · first | exact pt9 | exact hpt
      · rw [if_neg hc19_2]
        by_cases hc19_3 : (gI σ (jx ja 2) v1.toNat) = 3
        · rw [if_pos hc19_3]
          unfold w_X16_passOver_93
          try simp only [forall_eq, rII, rIJ, rIP, rJJ, rJI, rJP, rPP, rPI, rPJ, g1, g2, g3, g4, g5, g6, g7, g8, Nat.reduceEqDiff, Nat.reduceAdd, false_and, and_false, true_and, and_true, reduceIte, nZ0, nZ1]
          have c1 := opk.1 (by omega)
          have fi9 := hfi (gI σ (jx ja 4) v1.toNat) (by omega) (by omega)
          have pt9 := hpt
          have c2 := opk.2.1 (by omega)
          have fi8 := hfi (gI σ (jx ja 5) v1.toNat) (by omega) (by omega)
          have q7 := rσ.2.2.1 ja 4 (v1.toNat); simp only [rgJ] at q7
          refine s2_X16_passEach g rσ (by first | exact hj | (rw [fσ.2.2.2]; exact hj)) hja (by (try simp only [rII, rIJ, rIP, rJJ, rJI, rJP, rPP, rPI, rPJ, g1, g2, g3, g4, g5, g6, g7, g8, Nat.reduceEqDiff, Nat.reduceAdd, false_and, and_false, true_and, and_true, reduceIte, nZ0, nZ1]) <;> (first | omega | with_reducible assumption | (unfold rng; omega) | (unfold rng; (repeat' split) <;> omega))) (by (try simp only [rII, rIJ, rIP, rJJ, rJI, rJP, rPP, rPI, rPJ, g1, g2, g3, g4, g5, g6, g7, g8, Nat.reduceEqDiff, Nat.reduceAdd, false_and, and_false, true_and, and_true, reduceIte, nZ0, nZ1]) <;> (first | omega | with_reducible assumption | (unfold rng; omega) | (unfold rng; (repeat' split) <;> omega))) (by (try simp only [rII, rIJ, rIP, rJJ, rJI, rJP, rPP, rPI, rPJ, g1, g2, g3, g4, g5, g6, g7, g8, Nat.reduceEqDiff, Nat.reduceAdd, false_and, and_false, true_and, and_true, reduceIte, nZ0, nZ1]) <;> first | exact fun _ => opk.2.2.2.1 (by omega) | exact fun q => absurd (by assumption) q) (by exact pt9) hA (by (try simp only [rII, rIJ, rIP, rJJ, rJI, rJP, rPP, rPI, rPJ, g1, g2, g3, g4, g5, g6, g7, g8, Nat.reduceEqDiff, Nat.reduceAdd, false_and, and_false, true_and, and_true, reduceIte, nZ0, nZ1]) <;> first | exact fi9 | exact fi8) (fun σ36 _ rσ36 fc p8 => ?_) (fun σx E rx fx px => hX _ _ rx (Fr.tr fσ (Fr.mor (fx) (by decide) (by decide))) px)
          have fσ36 : Fr ra jx rm [20, 81, 82, 115, 116, 119, 120, 121, 122] [21, 117] σ σ36 := Fr.tr fσ (Fr.mor (fc) (by decide) (by decide))
          have pt9 := p8.1
          have eσ36_118 := fσ36.1 118 (by decide)
          have jσ36 := fσ36.2.2.1
          have pσ36 := fσ36.2.2.2
          try simp only [forall_eq, rII, rIJ, rIP, rJJ, rJI, rJP, rPP, rPI, rPJ, g1, g2, g3, g4, g5, g6, g7, g8, Nat.reduceEqDiff, Nat.reduceAdd, false_and, and_false, true_and, and_true, reduceIte, nZ0, nZ1, eσ36_118.1, eσ36_118.2, fun a k => (jσ36 a k).1, fun a k => (jσ36 a k).2, pσ36]
          refine ⟨ja, by exact hj, hja, ?_⟩
          refine ⟨by (first | omega | with_reducible assumption | (unfold rng; omega) | (unfold rng; (repeat' split) <;> omega)), ?_⟩
          have q9 := rσ.2.2.1 ja 5 (v1.toNat); simp only [rgJ] at q9
          refine s2_X16_passEach g rσ36 (by first | exact hj | (rw [fσ36.2.2.2]; exact hj)) hja (by (try simp only [rII, rIJ, rIP, rJJ, rJI, rJP, rPP, rPI, rPJ, g1, g2, g3, g4, g5, g6, g7, g8, Nat.reduceEqDiff, Nat.reduceAdd, false_and, and_false, true_and, and_true, reduceIte, nZ0, nZ1, eσ36_118.1, eσ36_118.2, fun a k => (jσ36 a k).1, fun a k => (jσ36 a k).2, pσ36]) <;> (first | omega | with_reducible assumption | (unfold rng; omega) | (unfold rng; (repeat' split) <;> omega))) (by (try simp only [rII, rIJ, rIP, rJJ, rJI, rJP, rPP, rPI, rPJ, g1, g2, g3, g4, g5, g6, g7, g8, Nat.reduceEqDiff, Nat.reduceAdd, false_and, and_false, true_and, and_true, reduceIte, nZ0, nZ1, eσ36_118.1, eσ36_118.2, fun a k => (jσ36 a k).1, fun a k => (jσ36 a k).2, pσ36]) <;> (first | omega | with_reducible assumption | (unfold rng; omega) | (unfold rng; (repeat' split) <;> omega))) (by (try simp only [rII, rIJ, rIP, rJJ, rJI, rJP, rPP, rPI, rPJ, g1, g2, g3, g4, g5, g6, g7, g8, Nat.reduceEqDiff, Nat.reduceAdd, false_and, and_false, true_and, and_true, reduceIte, nZ0, nZ1, eσ36_118.1, eσ36_118.2, fun a k => (jσ36 a k).1, fun a k => (jσ36 a k).2, pσ36]) <;> first | exact fun _ => opk.2.2.2.1 (by omega) | exact fun q => absurd (by assumption) q) (by exact pt9) hA (by (try simp only [rII, rIJ, rIP, rJJ, rJI, rJP, rPP, rPI, rPJ, g1, g2, g3, g4, g5, g6, g7, g8, Nat.reduceEqDiff, Nat.reduceAdd, false_and, and_false, true_and, and_true, reduceIte, nZ0, nZ1, eσ36_118.1, eσ36_118.2, fun a k => (jσ36 a k).1, fun a k => (jσ36 a k).2, pσ36]) <;> first | exact fi9 | exact fi8) (fun σ38 _ rσ38 fc p10 => ?_) (fun σx E rx fx px => hX _ _ rx (Fr.tr fσ36 (Fr.mor (fx) (by decide) (by decide))) px)
          have fσ38 : Fr ra jx rm [20, 81, 82, 115, 116, 119, 120, 121, 122] [21, 117] σ σ38 := Fr.tr fσ36 (Fr.mor (fc) (by decide) (by decide))
          have pt9 := p10.1
          have eσ38_118 := fσ38.1 118 (by decide)
          have jσ38 := fσ38.2.2.1
          have pσ38 := fσ38.2.2.2
          try simp only [forall_eq, rII, rIJ, rIP, rJJ, rJI, rJP, rPP, rPI, rPJ, g1, g2, g3, g4, g5, g6, g7, g8, Nat.reduceEqDiff, Nat.reduceAdd, false_and, and_false, true_and, and_true, reduceIte, nZ0, nZ1, eσ38_118.1, eσ38_118.2, fun a k => (jσ38 a k).1, fun a k => (jσ38 a k).2, pσ38]
          unfold w_X16_passOver_188
          try simp only [forall_eq, rII, rIJ, rIP, rJJ, rJI, rJP, rPP, rPI, rPJ, g1, g2, g3, g4, g5, g6, g7, g8, Nat.reduceEqDiff, Nat.reduceAdd, false_and, and_false, true_and, and_true, reduceIte, nZ0, nZ1, eσ38_118.1, eσ38_118.2, fun a k => (jσ38 a k).1, fun a k => (jσ38 a k).2, pσ38]
          refine hQ _ _ ?_ ?_ ?_
          · exact rσ38
          · exact fσ38
          · first | exact pt9 | exact hpt
        · rw [if_neg hc19_3]
          by_cases hc19_4 : (gI σ (jx ja 2) v1.toNat) = 4
          · rw [if_pos hc19_4]
            unfold w_X16_passOver_116
            try simp only [forall_eq, rII, rIJ, rIP, rJJ, rJI, rJP, rPP, rPI, rPJ, g1, g2, g3, g4, g5, g6, g7, g8, Nat.reduceEqDiff, Nat.reduceAdd, false_and, and_false, true_and, and_true, reduceIte, nZ0, nZ1]
            have c1 := opk.1 (by omega)
            have fi9 := hfi (gI σ (jx ja 4) v1.toNat) (by omega) (by omega)
            have pt9 := hpt
            have q11 := rσ.2.2.1 ja 4 (v1.toNat); simp only [rgJ] at q11
            refine s2_X16_passFold g rσ (by first | exact hj | (rw [fσ.2.2.2]; exact hj)) hja (by (try simp only [rII, rIJ, rIP, rJJ, rJI, rJP, rPP, rPI, rPJ, g1, g2, g3, g4, g5, g6, g7, g8, Nat.reduceEqDiff, Nat.reduceAdd, false_and, and_false, true_and, and_true, reduceIte, nZ0, nZ1]) <;> (first | omega | with_reducible assumption | (unfold rng; omega) | (unfold rng; (repeat' split) <;> omega))) (by (try simp only [rII, rIJ, rIP, rJJ, rJI, rJP, rPP, rPI, rPJ, g1, g2, g3, g4, g5, g6, g7, g8, Nat.reduceEqDiff, Nat.reduceAdd, false_and, and_false, true_and, and_true, reduceIte, nZ0, nZ1]) <;> (first | omega | with_reducible assumption | (unfold rng; omega) | (unfold rng; (repeat' split) <;> omega))) (by (try simp only [rII, rIJ, rIP, rJJ, rJI, rJP, rPP, rPI, rPJ, g1, g2, g3, g4, g5, g6, g7, g8, Nat.reduceEqDiff, Nat.reduceAdd, false_and, and_false, true_and, and_true, reduceIte, nZ0, nZ1]) <;> first | exact (opk.2.2.2.2.2.1 (by omega)).2 | exact (opk.2.2.2.1 (by omega)).2) (by have := (opk.2.2.2.2.2.1 (by omega)).1; omega) (by exact pt9) hA (by (try simp only [rII, rIJ, rIP, rJJ, rJI, rJP, rPP, rPI, rPJ, g1, g2, g3, g4, g5, g6, g7, g8, Nat.reduceEqDiff, Nat.reduceAdd, false_and, and_false, true_and, and_true, reduceIte, nZ0, nZ1]) <;> first | exact fi9 | exact fi8) hbq (by exact opk.2.2.2.2.2.2.2.2.1 (by omega)) (by exact fun q => ⟨opk.2.2.2.2.2.2.1 (by omega), opk.2.2.2.2.2.2.2.2.2.1 (by omega)⟩) (fun σ39 _ rσ39 fc p12 => ?_) (fun σx E rx fx px => hX _ _ rx (Fr.tr fσ (Fr.mor (fx) (by decide) (by decide))) px)
            have fσ39 : Fr ra jx rm [20, 81, 82, 115, 116, 119, 120, 121, 122] [21, 117] σ σ39 := Fr.tr fσ (Fr.mor (fc) (by decide) (by decide))
            have pt9 := p12.1
            have eσ39_118 := fσ39.1 118 (by decide)
            have jσ39 := fσ39.2.2.1
            have pσ39 := fσ39.2.2.2
            try simp only [forall_eq, rII, rIJ, rIP, rJJ, rJI, rJP, rPP, rPI, rPJ, g1, g2, g3, g4, g5, g6, g7, g8, Nat.reduceEqDiff, Nat.reduceAdd, false_and, and_false, true_and, and_true, reduceIte, nZ0, nZ1, eσ39_118.1, eσ39_118.2, fun a k => (jσ39 a k).1, fun a k => (jσ39 a k).2, pσ39]
            unfold w_X16_passOver_188
            try simp only [forall_eq, rII, rIJ, rIP, rJJ, rJI, rJP, rPP, rPI, rPJ, g1, g2, g3, g4, g5, g6, g7, g8, Nat.reduceEqDiff, Nat.reduceAdd, false_and, and_false, true_and, and_true, reduceIte, nZ0, nZ1, eσ39_118.1, eσ39_118.2, fun a k => (jσ39 a k).1, fun a k => (jσ39 a k).2, pσ39]
            refine hQ _ _ ?_ ?_ ?_
            · exact rσ39
            · exact fσ39
            · first | exact pt9 | exact hpt
          · rw [if_neg hc19_4]
            by_cases hc19_5 : (gI σ (jx ja 2) v1.toNat) = 5
            · rw [if_pos hc19_5]
              unfold w_X16_passOver_116
              try simp only [forall_eq, rII, rIJ, rIP, rJJ, rJI, rJP, rPP, rPI, rPJ, g1, g2, g3, g4, g5, g6, g7, g8, Nat.reduceEqDiff, Nat.reduceAdd, false_and, and_false, true_and, and_true, reduceIte, nZ0, nZ1]
              have c1 := opk.1 (by omega)
              have fi9 := hfi (gI σ (jx ja 4) v1.toNat) (by omega) (by omega)
              have pt9 := hpt
              have q13 := rσ.2.2.1 ja 4 (v1.toNat); simp only [rgJ] at q13
              refine s2_X16_passFold g rσ (by first | exact hj | (rw [fσ.2.2.2]; exact hj)) hja (by (try simp only [rII, rIJ, rIP, rJJ, rJI, rJP, rPP, rPI, rPJ, g1, g2, g3, g4, g5, g6, g7, g8, Nat.reduceEqDiff, Nat.reduceAdd, false_and, and_false, true_and, and_true, reduceIte, nZ0, nZ1]) <;> (first | omega | with_reducible assumption | (unfold rng; omega) | (unfold rng; (repeat' split) <;> omega))) (by (try simp only [rII, rIJ, rIP, rJJ, rJI, rJP, rPP, rPI, rPJ, g1, g2, g3, g4, g5, g6, g7, g8, Nat.reduceEqDiff, Nat.reduceAdd, false_and, and_false, true_and, and_true, reduceIte, nZ0, nZ1]) <;> (first | omega | with_reducible assumption | (unfold rng; omega) | (unfold rng; (repeat' split) <;> omega))) (by (try simp only [rII, rIJ, rIP, rJJ, rJI, rJP, rPP, rPI, rPJ, g1, g2, g3, g4, g5, g6, g7, g8, Nat.reduceEqDiff, Nat.reduceAdd, false_and, and_false, true_and, and_true, reduceIte, nZ0, nZ1]) <;> first | exact (opk.2.2.2.2.2.1 (by omega)).2 | exact (opk.2.2.2.1 (by omega)).2) (by have := (opk.2.2.2.2.2.1 (by omega)).1; omega) (by exact pt9) hA (by (try simp only [rII, rIJ, rIP, rJJ, rJI, rJP, rPP, rPI, rPJ, g1, g2, g3, g4, g5, g6, g7, g8, Nat.reduceEqDiff, Nat.reduceAdd, false_and, and_false, true_and, and_true, reduceIte, nZ0, nZ1]) <;> first | exact fi9 | exact fi8) hbq (by exact opk.2.2.2.2.2.2.2.2.1 (by omega)) (by exact fun q => ⟨opk.2.2.2.2.2.2.1 (by omega), opk.2.2.2.2.2.2.2.2.2.1 (by omega)⟩) (fun σ40 _ rσ40 fc p14 => ?_) (fun σx E rx fx px => hX _ _ rx (Fr.tr fσ (Fr.mor (fx) (by decide) (by decide))) px)
              have fσ40 : Fr ra jx rm [20, 81, 82, 115, 116, 119, 120, 121, 122] [21, 117] σ σ40 := Fr.tr fσ (Fr.mor (fc) (by decide) (by decide))
              have pt9 := p14.1
              have eσ40_118 := fσ40.1 118 (by decide)
              have jσ40 := fσ40.2.2.1
              have pσ40 := fσ40.2.2.2
              try simp only [forall_eq, rII, rIJ, rIP, rJJ, rJI, rJP, rPP, rPI, rPJ, g1, g2, g3, g4, g5, g6, g7, g8, Nat.reduceEqDiff, Nat.reduceAdd, false_and, and_false, true_and, and_true, reduceIte, nZ0, nZ1, eσ40_118.1, eσ40_118.2, fun a k => (jσ40 a k).1, fun a k => (jσ40 a k).2, pσ40]
              unfold w_X16_passOver_188
              try simp only [forall_eq, rII, rIJ, rIP, rJJ, rJI, rJP, rPP, rPI, rPJ, g1, g2, g3, g4, g5, g6, g7, g8, Nat.reduceEqDiff, Nat.reduceAdd, false_and, and_false, true_and, and_true, reduceIte, nZ0, nZ1, eσ40_118.1, eσ40_118.2, fun a k => (jσ40 a k).1, fun a k => (jσ40 a k).2, pσ40]
              refine hQ _ _ ?_ ?_ ?_
              · exact rσ40
              · exact fσ40
              · first | exact pt9 | exact hpt
            · rw [if_neg hc19_5]
              by_cases hc19_6 : (gI σ (jx ja 2) v1.toNat) = 6
              · rw [if_pos hc19_6]
                unfold w_X16_passOver_125
                try simp only [forall_eq, rII, rIJ, rIP, rJJ, rJI, rJP, rPP, rPI, rPJ, g1, g2, g3, g4, g5, g6, g7, g8, Nat.reduceEqDiff, Nat.reduceAdd, false_and, and_false, true_and, and_true, reduceIte, nZ0, nZ1]
                have c1 := opk.1 (by omega)
                have fi9 := hfi (gI σ (jx ja 4) v1.toNat) (by omega) (by omega)
                have pt9 := hpt
                have c2 := opk.2.1 (by omega)
                have fi8 := hfi (gI σ (jx ja 5) v1.toNat) (by omega) (by omega)
                refine ⟨ja, by exact hj, hja, ?_⟩
                refine ⟨by (first | omega | with_reducible assumption | (unfold rng; omega) | (unfold rng; (repeat' split) <;> omega)), ?_⟩
                have q15 := rσ.2.2.1 ja 4 (v1.toNat); simp only [rgJ] at q15
                have q16 := rσ.2.2.1 ja 5 (v1.toNat); simp only [rgJ] at q16
                refine s2_X16_passJoin g rσ (by first | exact hj | (rw [fσ.2.2.2]; exact hj)) hja (by (try simp only [rII, rIJ, rIP, rJJ, rJI, rJP, rPP, rPI, rPJ, g1, g2, g3, g4, g5, g6, g7, g8, Nat.reduceEqDiff, Nat.reduceAdd, false_and, and_false, true_and, and_true, reduceIte, nZ0, nZ1]) <;> (first | omega | with_reducible assumption | (unfold rng; omega) | (unfold rng; (repeat' split) <;> omega))) (by (try simp only [rII, rIJ, rIP, rJJ, rJI, rJP, rPP, rPI, rPJ, g1, g2, g3, g4, g5, g6, g7, g8, Nat.reduceEqDiff, Nat.reduceAdd, false_and, and_false, true_and, and_true, reduceIte, nZ0, nZ1]) <;> (first | omega | with_reducible assumption | (unfold rng; omega) | (unfold rng; (repeat' split) <;> omega))) (by (try simp only [rII, rIJ, rIP, rJJ, rJI, rJP, rPP, rPI, rPJ, g1, g2, g3, g4, g5, g6, g7, g8, Nat.reduceEqDiff, Nat.reduceAdd, false_and, and_false, true_and, and_true, reduceIte, nZ0, nZ1]) <;> (first | omega | with_reducible assumption | (unfold rng; omega) | (unfold rng; (repeat' split) <;> omega))) (by (try simp only [rII, rIJ, rIP, rJJ, rJI, rJP, rPP, rPI, rPJ, g1, g2, g3, g4, g5, g6, g7, g8, Nat.reduceEqDiff, Nat.reduceAdd, false_and, and_false, true_and, and_true, reduceIte, nZ0, nZ1]) <;> omega) (by (try simp only [rII, rIJ, rIP, rJJ, rJI, rJP, rPP, rPI, rPJ, g1, g2, g3, g4, g5, g6, g7, g8, Nat.reduceEqDiff, Nat.reduceAdd, false_and, and_false, true_and, and_true, reduceIte, nZ0, nZ1]) <;> exact opk.2.1 (by omega)) (by exact pt9) hA (by (try simp only [rII, rIJ, rIP, rJJ, rJI, rJP, rPP, rPI, rPJ, g1, g2, g3, g4, g5, g6, g7, g8, Nat.reduceEqDiff, Nat.reduceAdd, false_and, and_false, true_and, and_true, reduceIte, nZ0, nZ1]) <;> first | exact fi9 | exact fi8) (by (try simp only [rII, rIJ, rIP, rJJ, rJI, rJP, rPP, rPI, rPJ, g1, g2, g3, g4, g5, g6, g7, g8, Nat.reduceEqDiff, Nat.reduceAdd, false_and, and_false, true_and, and_true, reduceIte, nZ0, nZ1]) <;> exact fi8) (fun σ42 _ rσ42 fc p17 => ?_) (fun σx E rx fx px => hX _ _ rx (Fr.tr fσ (Fr.mor (fx) (by decide) (by decide))) px)
                have fσ42 : Fr ra jx rm [20, 81, 82, 115, 116, 119, 120, 121, 122] [21, 117] σ σ42 := Fr.tr fσ (Fr.mor (fc) (by decide) (by decide))
                have pt9 := p17.1
                have eσ42_118 := fσ42.1 118 (by decide)
                have jσ42 := fσ42.2.2.1
                have pσ42 := fσ42.2.2.2
                try simp only [forall_eq, rII, rIJ, rIP, rJJ, rJI, rJP, rPP, rPI, rPJ, g1, g2, g3, g4, g5, g6, g7, g8, Nat.reduceEqDiff, Nat.reduceAdd, false_and, and_false, true_and, and_true, reduceIte, nZ0, nZ1, eσ42_118.1, eσ42_118.2, fun a k => (jσ42 a k).1, fun a k => (jσ42 a k).2, pσ42]
                unfold w_X16_passOver_188
                try simp only [forall_eq, rII, rIJ, rIP, rJJ, rJI, rJP, rPP, rPI, rPJ, g1, g2, g3, g4, g5, g6, g7, g8, Nat.reduceEqDiff, Nat.reduceAdd, false_and, and_false, true_and, and_true, reduceIte, nZ0, nZ1, eσ42_118.1, eσ42_118.2, fun a k => (jσ42 a k).1, fun a k => (jσ42 a k).2, pσ42]
                refine hQ _ _ ?_ ?_ ?_
                · exact rσ42
                · exact fσ42
                · first | exact pt9 | exact hpt
              · rw [if_neg hc19_6]
                by_cases hc19_7 : (gI σ (jx ja 2) v1.toNat) = 7
                · rw [if_pos hc19_7]
                  unfold w_X16_passOver_143
                  try simp only [forall_eq, rII, rIJ, rIP, rJJ, rJI, rJP, rPP, rPI, rPJ, g1, g2, g3, g4, g5, g6, g7, g8, Nat.reduceEqDiff, Nat.reduceAdd, false_and, and_false, true_and, and_true, reduceIte, nZ0, nZ1]
                  have c1 := opk.1 (by omega)
                  have fi9 := hfi (gI σ (jx ja 4) v1.toNat) (by omega) (by omega)
                  have pt9 := hpt
                  have c2 := opk.2.1 (by omega)
                  have fi8 := hfi (gI σ (jx ja 5) v1.toNat) (by omega) (by omega)
                  refine ⟨ja, by exact hj, hja, ?_⟩
                  refine ⟨by (first | omega | with_reducible assumption | (unfold rng; omega) | (unfold rng; (repeat' split) <;> omega)), ?_⟩
                  have q18 := rσ.2.2.1 ja 4 (v1.toNat); simp only [rgJ] at q18
                  have q19 := rσ.2.2.1 ja 5 (v1.toNat); simp only [rgJ] at q19
                  refine s2_X16_passLook g rσ (by first | exact hj | (rw [fσ.2.2.2]; exact hj)) hja (by (try simp only [rII, rIJ, rIP, rJJ, rJI, rJP, rPP, rPI, rPJ, g1, g2, g3, g4, g5, g6, g7, g8, Nat.reduceEqDiff, Nat.reduceAdd, false_and, and_false, true_and, and_true, reduceIte, nZ0, nZ1]) <;> (first | omega | with_reducible assumption | (unfold rng; omega) | (unfold rng; (repeat' split) <;> omega))) (by (try simp only [rII, rIJ, rIP, rJJ, rJI, rJP, rPP, rPI, rPJ, g1, g2, g3, g4, g5, g6, g7, g8, Nat.reduceEqDiff, Nat.reduceAdd, false_and, and_false, true_and, and_true, reduceIte, nZ0, nZ1]) <;> (first | omega | with_reducible assumption | (unfold rng; omega) | (unfold rng; (repeat' split) <;> omega))) (by (try simp only [rII, rIJ, rIP, rJJ, rJI, rJP, rPP, rPI, rPJ, g1, g2, g3, g4, g5, g6, g7, g8, Nat.reduceEqDiff, Nat.reduceAdd, false_and, and_false, true_and, and_true, reduceIte, nZ0, nZ1]) <;> (first | omega | with_reducible assumption | (unfold rng; omega) | (unfold rng; (repeat' split) <;> omega))) (by (try simp only [rII, rIJ, rIP, rJJ, rJI, rJP, rPP, rPI, rPJ, g1, g2, g3, g4, g5, g6, g7, g8, Nat.reduceEqDiff, Nat.reduceAdd, false_and, and_false, true_and, and_true, reduceIte, nZ0, nZ1]) <;> omega) (by (try simp only [rII, rIJ, rIP, rJJ, rJI, rJP, rPP, rPI, rPJ, g1, g2, g3, g4, g5, g6, g7, g8, Nat.reduceEqDiff, Nat.reduceAdd, false_and, and_false, true_and, and_true, reduceIte, nZ0, nZ1]) <;> exact opk.2.1 (by omega)) (by exact pt9) hA (by (try simp only [rII, rIJ, rIP, rJJ, rJI, rJP, rPP, rPI, rPJ, g1, g2, g3, g4, g5, g6, g7, g8, Nat.reduceEqDiff, Nat.reduceAdd, false_and, and_false, true_and, and_true, reduceIte, nZ0, nZ1]) <;> first | exact fi9 | exact fi8) (fun σ44 _ rσ44 fc p20 => ?_) (fun σx E rx fx px => hX _ _ rx (Fr.tr fσ (Fr.mor (fx) (by decide) (by decide))) px)
                  have fσ44 : Fr ra jx rm [20, 81, 82, 115, 116, 119, 120, 121, 122] [21, 117] σ σ44 := Fr.tr fσ (Fr.mor (fc) (by decide) (by decide))
                  have pt9 := p20.1
                  have eσ44_118 := fσ44.1 118 (by decide)
                  have jσ44 := fσ44.2.2.1
                  have pσ44 := fσ44.2.2.2
                  try simp only [forall_eq, rII, rIJ, rIP, rJJ, rJI, rJP, rPP, rPI, rPJ, g1, g2, g3, g4, g5, g6, g7, g8, Nat.reduceEqDiff, Nat.reduceAdd, false_and, and_false, true_and, and_true, reduceIte, nZ0, nZ1, eσ44_118.1, eσ44_118.2, fun a k => (jσ44 a k).1, fun a k => (jσ44 a k).2, pσ44]
                  unfold w_X16_passOver_188
                  try simp only [forall_eq, rII, rIJ, rIP, rJJ, rJI, rJP, rPP, rPI, rPJ, g1, g2, g3, g4, g5, g6, g7, g8, Nat.reduceEqDiff, Nat.reduceAdd, false_and, and_false, true_and, and_true, reduceIte, nZ0, nZ1, eσ44_118.1, eσ44_118.2, fun a k => (jσ44 a k).1, fun a k => (jσ44 a k).2, pσ44]
                  refine hQ _ _ ?_ ?_ ?_
                  · exact rσ44
                  · exact fσ44
                  · first | exact pt9 | exact hpt
                · rw [if_neg hc19_7]
                  by_cases hc19_8 : (gI σ (jx ja 2) v1.toNat) = 8
                  · rw [if_pos hc19_8]
                    unfold w_X16_passOver_161
                    try simp only [forall_eq, rII, rIJ, rIP, rJJ, rJI, rJP, rPP, rPI, rPJ, g1, g2, g3, g4, g5, g6, g7, g8, Nat.reduceEqDiff, Nat.reduceAdd, false_and, and_false, true_and, and_true, reduceIte, nZ0, nZ1]
                    have c1 := opk.1 (by omega)
                    have fi9 := hfi (gI σ (jx ja 4) v1.toNat) (by omega) (by omega)
                    have pt9 := hpt
                    have q21 := rσ.2.2.1 ja 4 (v1.toNat); simp only [rgJ] at q21
                    refine s2_X16_passMatch g rσ (by first | exact hj | (rw [fσ.2.2.2]; exact hj)) hja (by (try simp only [rII, rIJ, rIP, rJJ, rJI, rJP, rPP, rPI, rPJ, g1, g2, g3, g4, g5, g6, g7, g8, Nat.reduceEqDiff, Nat.reduceAdd, false_and, and_false, true_and, and_true, reduceIte, nZ0, nZ1]) <;> (first | omega | with_reducible assumption | (unfold rng; omega) | (unfold rng; (repeat' split) <;> omega))) (by (try simp only [rII, rIJ, rIP, rJJ, rJI, rJP, rPP, rPI, rPJ, g1, g2, g3, g4, g5, g6, g7, g8, Nat.reduceEqDiff, Nat.reduceAdd, false_and, and_false, true_and, and_true, reduceIte, nZ0, nZ1]) <;> (first | omega | with_reducible assumption | (unfold rng; omega) | (unfold rng; (repeat' split) <;> omega))) (by (try simp only [rII, rIJ, rIP, rJJ, rJI, rJP, rPP, rPI, rPJ, g1, g2, g3, g4, g5, g6, g7, g8, Nat.reduceEqDiff, Nat.reduceAdd, false_and, and_false, true_and, and_true, reduceIte, nZ0, nZ1]) <;> first | exact (opk.2.2.2.2.2.1 (by omega)).2 | exact (opk.2.2.2.1 (by omega)).2) (by exact opk.2.2.2.2.1 (by omega)) (by exact pt9) hA (by (try simp only [rII, rIJ, rIP, rJJ, rJI, rJP, rPP, rPI, rPJ, g1, g2, g3, g4, g5, g6, g7, g8, Nat.reduceEqDiff, Nat.reduceAdd, false_and, and_false, true_and, and_true, reduceIte, nZ0, nZ1]) <;> first | exact fi9 | exact fi8) (fun σ45 _ rσ45 fc p22 => ?_) (fun σx E rx fx px => hX _ _ rx (Fr.tr fσ (Fr.mor (fx) (by decide) (by decide))) px)
                    have fσ45 : Fr ra jx rm [20, 81, 82, 115, 116, 119, 120, 121, 122] [21, 117] σ σ45 := Fr.tr fσ (Fr.mor (fc) (by decide) (by decide))
                    have pt9 := p22.1
                    have eσ45_118 := fσ45.1 118 (by decide)
                    have jσ45 := fσ45.2.2.1
                    have pσ45 := fσ45.2.2.2
                    try simp only [forall_eq, rII, rIJ, rIP, rJJ, rJI, rJP, rPP, rPI, rPJ, g1, g2, g3, g4, g5, g6, g7, g8, Nat.reduceEqDiff, Nat.reduceAdd, false_and, and_false, true_and, and_true, reduceIte, nZ0, nZ1, eσ45_118.1, eσ45_118.2, fun a k => (jσ45 a k).1, fun a k => (jσ45 a k).2, pσ45]
                    unfold w_X16_passOver_188
                    try simp only [forall_eq, rII, rIJ, rIP, rJJ, rJI, rJP, rPP, rPI, rPJ, g1, g2, g3, g4, g5, g6, g7, g8, Nat.reduceEqDiff, Nat.reduceAdd, false_and, and_false, true_and, and_true, reduceIte, nZ0, nZ1, eσ45_118.1, eσ45_118.2, fun a k => (jσ45 a k).1, fun a k => (jσ45 a k).2, pσ45]
                    refine hQ _ _ ?_ ?_ ?_
                    · exact rσ45
                    · exact fσ45
                    · first | exact pt9 | exact hpt
                  · rw [if_neg hc19_8]
                    by_cases hc19_9 : (gI σ (jx ja 2) v1.toNat) = 9
                    · rw [if_pos hc19_9]
                      unfold w_X16_passOver_170
                      try simp only [forall_eq, rII, rIJ, rIP, rJJ, rJI, rJP, rPP, rPI, rPJ, g1, g2, g3, g4, g5, g6, g7, g8, Nat.reduceEqDiff, Nat.reduceAdd, false_and, and_false, true_and, and_true, reduceIte, nZ0, nZ1]
                      have c1 := opk.1 (by omega)
                      have fi9 := hfi (gI σ (jx ja 4) v1.toNat) (by omega) (by omega)
                      have pt9 := hpt
                      have q23 := rσ.2.2.1 ja 4 (v1.toNat); simp only [rgJ] at q23
                      refine s2_X16_passUnique g rσ (by first | exact hj | (rw [fσ.2.2.2]; exact hj)) hja (by (try simp only [rII, rIJ, rIP, rJJ, rJI, rJP, rPP, rPI, rPJ, g1, g2, g3, g4, g5, g6, g7, g8, Nat.reduceEqDiff, Nat.reduceAdd, false_and, and_false, true_and, and_true, reduceIte, nZ0, nZ1]) <;> (first | omega | with_reducible assumption | (unfold rng; omega) | (unfold rng; (repeat' split) <;> omega))) (by (try simp only [rII, rIJ, rIP, rJJ, rJI, rJP, rPP, rPI, rPJ, g1, g2, g3, g4, g5, g6, g7, g8, Nat.reduceEqDiff, Nat.reduceAdd, false_and, and_false, true_and, and_true, reduceIte, nZ0, nZ1]) <;> (first | omega | with_reducible assumption | (unfold rng; omega) | (unfold rng; (repeat' split) <;> omega))) (by exact pt9) hA (by (try simp only [rII, rIJ, rIP, rJJ, rJI, rJP, rPP, rPI, rPJ, g1, g2, g3, g4, g5, g6, g7, g8, Nat.reduceEqDiff, Nat.reduceAdd, false_and, and_false, true_and, and_true, reduceIte, nZ0, nZ1]) <;> first | exact fi9 | exact fi8) (fun σ46 _ rσ46 fc p24 => ?_) (fun σx E rx fx px => hX _ _ rx (Fr.tr fσ (Fr.mor (fx) (by decide) (by decide))) px)
                      have fσ46 : Fr ra jx rm [20, 81, 82, 115, 116, 119, 120, 121, 122] [21, 117] σ σ46 := Fr.tr fσ (Fr.mor (fc) (by decide) (by decide))
                      have pt9 := p24.1
                      have eσ46_118 := fσ46.1 118 (by decide)
                      have jσ46 := fσ46.2.2.1
                      have pσ46 := fσ46.2.2.2
                      try simp only [forall_eq, rII, rIJ, rIP, rJJ, rJI, rJP, rPP, rPI, rPJ, g1, g2, g3, g4, g5, g6, g7, g8, Nat.reduceEqDiff, Nat.reduceAdd, false_and, and_false, true_and, and_true, reduceIte, nZ0, nZ1, eσ46_118.1, eσ46_118.2, fun a k => (jσ46 a k).1, fun a k => (jσ46 a k).2, pσ46]
                      unfold w_X16_passOver_188
                      try simp only [forall_eq, rII, rIJ, rIP, rJJ, rJI, rJP, rPP, rPI, rPJ, g1, g2, g3, g4, g5, g6, g7, g8, Nat.reduceEqDiff, Nat.reduceAdd, false_and, and_false, true_and, and_true, reduceIte, nZ0, nZ1, eσ46_118.1, eσ46_118.2, fun a k => (jσ46 a k).1, fun a k => (jσ46 a k).2, pσ46]
                      refine hQ _ _ ?_ ?_ ?_
                      · exact rσ46
                      · exact fσ46
                      · first | exact pt9 | exact hpt
                    · rw [if_neg hc19_9]
                      by_cases hc19_10 : (gI σ (jx ja 2) v1.toNat) = 10
                      · rw [if_pos hc19_10]
                        unfold w_X16_passOver_179
                        try simp only [forall_eq, rII, rIJ, rIP, rJJ, rJI, rJP, rPP, rPI, rPJ, g1, g2, g3, g4, g5, g6, g7, g8, Nat.reduceEqDiff, Nat.reduceAdd, false_and, and_false, true_and, and_true, reduceIte, nZ0, nZ1]
                        have c1 := opk.1 (by omega)
                        have fi9 := hfi (gI σ (jx ja 4) v1.toNat) (by omega) (by omega)
                        have pt9 := hpt
                        have q25 := rσ.2.2.1 ja 4 (v1.toNat); simp only [rgJ] at q25
                        refine s2_X16_passTop g rσ (by first | exact hj | (rw [fσ.2.2.2]; exact hj)) hja (by (try simp only [rII, rIJ, rIP, rJJ, rJI, rJP, rPP, rPI, rPJ, g1, g2, g3, g4, g5, g6, g7, g8, Nat.reduceEqDiff, Nat.reduceAdd, false_and, and_false, true_and, and_true, reduceIte, nZ0, nZ1]) <;> (first | omega | with_reducible assumption | (unfold rng; omega) | (unfold rng; (repeat' split) <;> omega))) (by (try simp only [rII, rIJ, rIP, rJJ, rJI, rJP, rPP, rPI, rPJ, g1, g2, g3, g4, g5, g6, g7, g8, Nat.reduceEqDiff, Nat.reduceAdd, false_and, and_false, true_and, and_true, reduceIte, nZ0, nZ1]) <;> (first | omega | with_reducible assumption | (unfold rng; omega) | (unfold rng; (repeat' split) <;> omega))) (by exact (opk.2.2.2.2.2.2.2.1 (by omega)).2.2.2) (by exact (opk.2.2.2.2.2.2.2.1 (by omega)).2.2.1) (by exact pt9) hA (by (try simp only [rII, rIJ, rIP, rJJ, rJI, rJP, rPP, rPI, rPJ, g1, g2, g3, g4, g5, g6, g7, g8, Nat.reduceEqDiff, Nat.reduceAdd, false_and, and_false, true_and, and_true, reduceIte, nZ0, nZ1]) <;> first | exact fi9 | exact fi8) (by exact ⟨(opk.2.2.2.2.2.2.2.1 (by omega)).1, opk.2.2.2.2.2.2.2.2.2.1 (by omega)⟩) (fun σ47 _ rσ47 fc p26 => ?_) (fun σx E rx fx px => hX _ _ rx (Fr.tr fσ (Fr.mor (fx) (by decide) (by decide))) px)
                        have fσ47 : Fr ra jx rm [20, 81, 82, 115, 116, 119, 120, 121, 122] [21, 117] σ σ47 := Fr.tr fσ (Fr.mor (fc) (by decide) (by decide))
                        have pt9 := p26.1
                        have eσ47_118 := fσ47.1 118 (by decide)
                        have jσ47 := fσ47.2.2.1
                        have pσ47 := fσ47.2.2.2
                        try simp only [forall_eq, rII, rIJ, rIP, rJJ, rJI, rJP, rPP, rPI, rPJ, g1, g2, g3, g4, g5, g6, g7, g8, Nat.reduceEqDiff, Nat.reduceAdd, false_and, and_false, true_and, and_true, reduceIte, nZ0, nZ1, eσ47_118.1, eσ47_118.2, fun a k => (jσ47 a k).1, fun a k => (jσ47 a k).2, pσ47]
                        unfold w_X16_passOver_188
                        try simp only [forall_eq, rII, rIJ, rIP, rJJ, rJI, rJP, rPP, rPI, rPJ, g1, g2, g3, g4, g5, g6, g7, g8, Nat.reduceEqDiff, Nat.reduceAdd, false_and, and_false, true_and, and_true, reduceIte, nZ0, nZ1, eσ47_118.1, eσ47_118.2, fun a k => (jσ47 a k).1, fun a k => (jσ47 a k).2, pσ47]
                        refine hQ _ _ ?_ ?_ ?_
                        · exact rσ47
                        · exact fσ47
                        · first | exact pt9 | exact hpt
                      · rw [if_neg hc19_10]
                        unfold w_X16_passOver_188
                        try simp only [forall_eq, rII, rIJ, rIP, rJJ, rJI, rJP, rPP, rPI, rPJ, g1, g2, g3, g4, g5, g6, g7, g8, Nat.reduceEqDiff, Nat.reduceAdd, false_and, and_false, true_and, and_true, reduceIte, nZ0, nZ1]
                        refine hQ _ _ ?_ ?_ ?_
                        · exact rσ
                        · exact fσ
                        · first | exact pt9 | exact hpt
set_option maxHeartbeats 4000000 in
theorem s_X16_isShown {ra : Nat → Nat} {jx : Nat → Nat → Nat} {rm : Nat} {ja : Nat} (g : Geo ra jx rm) {σ : Sg} {v1 : Int} (rσ : Rg ra jx rm σ) (hj : gP σ rm 17 = some ja) (hja : ja = ra 15 ∨ ja = ra 16) (hjo : JobOK jx ja σ) (h1 : 0 ≤ v1 ∧ v1 < gI σ ja 1) (hhe : HeE ra rm σ) {Q : Sg → Int → Prop} {X : Sg → String → Prop} (hQ : ∀ (σ' : Sg) (r : Int), Rg ra jx rm σ' → Fr ra jx rm [120] [] σ σ' → (r = 0 ∨ r = 1) → Q σ' r) : wp_X16_isShown ra jx rm v1 σ Q X := by
  obtain ⟨g1, g2, g3, g4, g5, g6, g7, g8⟩ := id g
  have fσ : Fr ra jx rm [120] [] σ σ := Fr.rf
  have hco := hjo.1
  obtain ⟨own, ps, mn, la, hG, hA⟩ := id hhe
  have hls := hG.ls (T := 3 * v1 + 2) (by omega)
  clear hA
  unfold wp_X16_isShown
  unfold w_X16_isShown_0
  try simp only [forall_eq, rII, rIJ, rIP, rJJ, rJI, rJP, rPP, rPI, rPJ, g1, g2, g3, g4, g5, g6, g7, g8, Nat.reduceEqDiff, Nat.reduceAdd, false_and, and_false, true_and, and_true, reduceIte, nZ0, nZ1]
  refine s2_X16_operatorOfOutput g rσ (by first | exact hj | (rw [fσ.2.2.2]; exact hj)) hja (by (try simp only [rII, rIJ, rIP, rJJ, rJI, rJP, rPP, rPI, rPJ, g1, g2, g3, g4, g5, g6, g7, g8, Nat.reduceEqDiff, Nat.reduceAdd, false_and, and_false, true_and, and_true, reduceIte, nZ0, nZ1]) <;> (first | omega | with_reducible assumption | (unfold rng; omega) | (unfold rng; (repeat' split) <;> omega) | decide)) hco (fun r18 p1 => ?_)
  try simp only [forall_eq, rII, rIJ, rIP, rJJ, rJI, rJP, rPP, rPI, rPJ, g1, g2, g3, g4, g5, g6, g7, g8, Nat.reduceEqDiff, Nat.reduceAdd, false_and, and_false, true_and, and_true, reduceIte, nZ0, nZ1]
  have c1 := (hjo.2.2 r18 p1.1 p1.2.1).1 (by omega)
  have q4 := rσ.2.2.1 ja 4 r18.toNat; simp only [rgJ] at q4
  refine ⟨ja, by exact hj, hja, ?_⟩
  refine ⟨by (first | omega | with_reducible assumption | (unfold rng; omega) | (unfold rng; (repeat' split) <;> omega) | decide), ?_⟩
  have q2 := rσ.2.2.1 ja 4 (r18.toNat); simp only [rgJ] at q2
  refine ⟨by (first | omega | with_reducible assumption | (unfold rng; omega) | (unfold rng; (repeat' split) <;> omega) | decide), ?_⟩
  refine ⟨by (first | omega | with_reducible assumption | (unfold rng; omega) | (unfold rng; (repeat' split) <;> omega) | decide), ?_⟩
  refine ⟨by (first | omega | with_reducible assumption | (unfold rng; omega) | (unfold rng; (repeat' split) <;> omega) | decide), ?_⟩
  have q3 := rσ.1 118 (((gI σ (jx ja 4) r18.toNat) + 1).toNat); simp only [rgT] at q3
  have q4 := rσ.1 118 ((gI σ (jx ja 4) r18.toNat).toNat); simp only [rgT] at q4
  refine ⟨by (first | omega | with_reducible assumption | (unfold rng; omega) | (unfold rng; (repeat' split) <;> omega) | decide), ?_⟩
  refine ⟨by (first | omega | with_reducible assumption | (unfold rng; omega) | (unfold rng; (repeat' split) <;> omega) | decide), ?_⟩
  refine ⟨by (first | omega | with_reducible assumption | (unfold rng; omega) | (unfold rng; (repeat' split) <;> omega) | decide), ?_⟩
  refine ⟨by (first | omega | with_reducible assumption | (unfold rng; omega) | (unfold rng; (repeat' split) <;> omega) | decide), ?_⟩
  have q5 := rσ.1 89 (((3 * v1) + 2).toNat); simp only [rgT] at q5
  split
  · rename_i hc45
    skip
    unfold w_X16_isShown_52
    try simp only [forall_eq, rII, rIJ, rIP, rJJ, rJI, rJP, rPP, rPI, rPJ, g1, g2, g3, g4, g5, g6, g7, g8, Nat.reduceEqDiff, Nat.reduceAdd, false_and, and_false, true_and, and_true, reduceIte, nZ0, nZ1]
    unfold w_X16_isShown_53
    try simp only [forall_eq, rII, rIJ, rIP, rJJ, rJI, rJP, rPP, rPI, rPJ, g1, g2, g3, g4, g5, g6, g7, g8, Nat.reduceEqDiff, Nat.reduceAdd, false_and, and_false, true_and, and_true, reduceIte, nZ0, nZ1]
    have L58 : ∀ (fu58 : Nat) (τ58 : Sg) (v6 : Int), Rg ra jx rm τ58 → Fr ra jx rm [120] [] σ τ58 → (0 ≤ v6) → ((4000 - v6).toNat) < fu58 → wl_X16_isShown_58 ra jx rm Q X fu58 τ58 v1 (gI σ (jx ja 4) r18.toNat) ((gI σ (ra 118) ((gI σ (jx ja 4) r18.toNat) + 1).toNat) - (gI σ (ra 118) (gI σ (jx ja 4) r18.toNat).toNat)) 0 v6 := by
      intro fu58
      induction fu58 with
      | zero => intro τ58 _ _ _ _ h9; omega
      | succ fu58 ih58 =>
        intro τ58 v6 rτ58 fτ58 hi58 hm58
        unfold wl_X16_isShown_58
        have eτ58_83 := fτ58.1 83 (by decide)
        have eτ58_86 := fτ58.1 86 (by decide)
        have eτ58_87 := fτ58.1 87 (by decide)
        have eτ58_89 := fτ58.1 89 (by decide)
        have eτ58_115 := fτ58.1 115 (by decide)
        have eτ58_118 := fτ58.1 118 (by decide)
        have jτ58 := fτ58.2.2.1
        have pτ58 := fτ58.2.2.2
        unfold w_X16_isShown_58
        try simp only [forall_eq, rII, rIJ, rIP, rJJ, rJI, rJP, rPP, rPI, rPJ, g1, g2, g3, g4, g5, g6, g7, g8, Nat.reduceEqDiff, Nat.reduceAdd, false_and, and_false, true_and, and_true, reduceIte, nZ0, nZ1, eτ58_83.1, eτ58_83.2, eτ58_86.1, eτ58_86.2, eτ58_87.1, eτ58_87.2, eτ58_89.1, eτ58_89.2, eτ58_115.1, eτ58_115.2, eτ58_118.1, eτ58_118.2, fun a k => (jτ58 a k).1, fun a k => (jτ58 a k).2, pτ58]
        split
        · rename_i hc62
          skip
          unfold w_X16_isShown_79
          try simp only [forall_eq, rII, rIJ, rIP, rJJ, rJI, rJP, rPP, rPI, rPJ, g1, g2, g3, g4, g5, g6, g7, g8, Nat.reduceEqDiff, Nat.reduceAdd, false_and, and_false, true_and, and_true, reduceIte, nZ0, nZ1, eτ58_83.1, eτ58_83.2, eτ58_86.1, eτ58_86.2, eτ58_87.1, eτ58_87.2, eτ58_89.1, eτ58_89.2, eτ58_115.1, eτ58_115.2, eτ58_118.1, eτ58_118.2, fun a k => (jτ58 a k).1, fun a k => (jτ58 a k).2, pτ58]
          refine ⟨by (first | omega | with_reducible assumption | (unfold rng; omega) | (unfold rng; (repeat' split) <;> omega) | decide), ?_⟩
          refine ⟨by (first | omega | with_reducible assumption | (unfold rng; omega) | (unfold rng; (repeat' split) <;> omega) | decide), ?_⟩
          refine ⟨by (first | omega | with_reducible assumption | (unfold rng; omega) | (unfold rng; (repeat' split) <;> omega) | decide), ?_⟩
          have q6 := rσ.1 87 (((3 * v1) + 2).toNat); simp only [rgT] at q6
          have L91 : ∀ (fu91 : Nat) (τ91 : Sg) (v5 : Int) (v6 : Int), Rg ra jx rm τ91 → Fr ra jx rm [120] [] σ τ91 → ((v5 = 0 ∨ v5 = 1) ∧ (v6 = -1 ∨ own v6 = 3 * v1 + 2)) → ((if v6 < 0 then 0 else mn (3 * v1 + 2) - ps v6).toNat) < fu91 → wl_X16_isShown_91 ra jx rm Q X fu91 τ91 (gI σ (jx ja 4) r18.toNat) ((gI σ (ra 118) ((gI σ (jx ja 4) r18.toNat) + 1).toNat) - (gI σ (ra 118) (gI σ (jx ja 4) r18.toNat).toNat)) v5 v6 := by
            intro fu91
            induction fu91 with
            | zero => intro τ91 _ _ _ _ _ h9; omega
            | succ fu91 ih91 =>
              intro τ91 v5 v6 rτ91 fτ91 hi91 hm91
              unfold wl_X16_isShown_91
              have eτ91_83 := fτ91.1 83 (by decide)
              have eτ91_86 := fτ91.1 86 (by decide)
              have eτ91_87 := fτ91.1 87 (by decide)
              have eτ91_89 := fτ91.1 89 (by decide)
              have eτ91_115 := fτ91.1 115 (by decide)
              have eτ91_118 := fτ91.1 118 (by decide)
              have jτ91 := fτ91.2.2.1
              have pτ91 := fτ91.2.2.2
              unfold w_X16_isShown_91
              try simp only [forall_eq, rII, rIJ, rIP, rJJ, rJI, rJP, rPP, rPI, rPJ, g1, g2, g3, g4, g5, g6, g7, g8, Nat.reduceEqDiff, Nat.reduceAdd, false_and, and_false, true_and, and_true, reduceIte, nZ0, nZ1, eτ91_83.1, eτ91_83.2, eτ91_86.1, eτ91_86.2, eτ91_87.1, eτ91_87.2, eτ91_89.1, eτ91_89.2, eτ91_115.1, eτ91_115.2, eτ91_118.1, eτ91_118.2, fun a k => (jτ91 a k).1, fun a k => (jτ91 a k).2, pτ91]
              split
              · rename_i hc94
                skip
                unfold w_X16_isShown_242
                try simp only [forall_eq, rII, rIJ, rIP, rJJ, rJI, rJP, rPP, rPI, rPJ, g1, g2, g3, g4, g5, g6, g7, g8, Nat.reduceEqDiff, Nat.reduceAdd, false_and, and_false, true_and, and_true, reduceIte, nZ0, nZ1, eτ91_83.1, eτ91_83.2, eτ91_86.1, eτ91_86.2, eτ91_87.1, eτ91_87.2, eτ91_89.1, eτ91_89.2, eτ91_115.1, eτ91_115.2, eτ91_118.1, eτ91_118.2, fun a k => (jτ91 a k).1, fun a k => (jτ91 a k).2, pτ91]
                refine ⟨by (first | omega | with_reducible assumption | (unfold rng; omega) | (unfold rng; (repeat' split) <;> omega) | decide), ?_⟩
                refine hQ _ _ ?_ ?_ ?_
                · exact rτ91
                · exact fτ91
                · (try simp only [rII, rIJ, rIP, rJJ, rJI, rJP, rPP, rPI, rPJ, g1, g2, g3, g4, g5, g6, g7, g8, Nat.reduceEqDiff, Nat.reduceAdd, false_and, and_false, true_and, and_true, reduceIte, nZ0, nZ1, eτ91_83.1, eτ91_83.2, eτ91_86.1, eτ91_86.2, eτ91_87.1, eτ91_87.2, eτ91_89.1, eτ91_89.2, eτ91_115.1, eτ91_115.2, eτ91_118.1, eτ91_118.2, fun a k => (jτ91 a k).1, fun a k => (jτ91 a k).2, pτ91]) <;> (first | omega | with_reducible assumption | (unfold rng; omega) | (unfold rng; (repeat' split) <;> omega) | decide)
              · rename_i hc94
                skip
                unfold w_X16_isShown_97
                try simp only [forall_eq, rII, rIJ, rIP, rJJ, rJI, rJP, rPP, rPI, rPJ, g1, g2, g3, g4, g5, g6, g7, g8, Nat.reduceEqDiff, Nat.reduceAdd, false_and, and_false, true_and, and_true, reduceIte, nZ0, nZ1, eτ91_83.1, eτ91_83.2, eτ91_86.1, eτ91_86.2, eτ91_87.1, eτ91_87.2, eτ91_89.1, eτ91_89.2, eτ91_115.1, eτ91_115.2, eτ91_118.1, eτ91_118.2, fun a k => (jτ91 a k).1, fun a k => (jτ91 a k).2, pτ91]
                have n6 := hG.nd (hi91.2.resolve_left (by assumption)) (by omega)
                have n61 := n6.1; have n62 := n6.2.1; have n63 := n6.2.2.1; have n64 := n6.2.2.2
                split
                · rename_i hc99
                  skip
                  unfold w_X16_isShown_242
                  try simp only [forall_eq, rII, rIJ, rIP, rJJ, rJI, rJP, rPP, rPI, rPJ, g1, g2, g3, g4, g5, g6, g7, g8, Nat.reduceEqDiff, Nat.reduceAdd, false_and, and_false, true_and, and_true, reduceIte, nZ0, nZ1, eτ91_83.1, eτ91_83.2, eτ91_86.1, eτ91_86.2, eτ91_87.1, eτ91_87.2, eτ91_89.1, eτ91_89.2, eτ91_115.1, eτ91_115.2, eτ91_118.1, eτ91_118.2, fun a k => (jτ91 a k).1, fun a k => (jτ91 a k).2, pτ91]
                  refine ⟨by (first | omega | with_reducible assumption | (unfold rng; omega) | (unfold rng; (repeat' split) <;> omega) | decide), ?_⟩
                  refine hQ _ _ ?_ ?_ ?_
                  · exact rτ91
                  · exact fτ91
                  · (try simp only [rII, rIJ, rIP, rJJ, rJI, rJP, rPP, rPI, rPJ, g1, g2, g3, g4, g5, g6, g7, g8, Nat.reduceEqDiff, Nat.reduceAdd, false_and, and_false, true_and, and_true, reduceIte, nZ0, nZ1, eτ91_83.1, eτ91_83.2, eτ91_86.1, eτ91_86.2, eτ91_87.1, eτ91_87.2, eτ91_89.1, eτ91_89.2, eτ91_115.1, eτ91_115.2, eτ91_118.1, eτ91_118.2, fun a k => (jτ91 a k).1, fun a k => (jτ91 a k).2, pτ91]) <;> (first | omega | with_reducible assumption | (unfold rng; omega) | (unfold rng; (repeat' split) <;> omega) | decide)
                · rename_i hc99
                  skip
                  unfold w_X16_isShown_102
                  try simp only [forall_eq, rII, rIJ, rIP, rJJ, rJI, rJP, rPP, rPI, rPJ, g1, g2, g3, g4, g5, g6, g7, g8, Nat.reduceEqDiff, Nat.reduceAdd, false_and, and_false, true_and, and_true, reduceIte, nZ0, nZ1, eτ91_83.1, eτ91_83.2, eτ91_86.1, eτ91_86.2, eτ91_87.1, eτ91_87.2, eτ91_89.1, eτ91_89.2, eτ91_115.1, eτ91_115.2, eτ91_118.1, eτ91_118.2, fun a k => (jτ91 a k).1, fun a k => (jτ91 a k).2, pτ91]
                  have L108 : ∀ (fu108 : Nat) (v7 : Int) (v8 : Int), (0 ≤ v8 ∧ (v7 = -1 ∨ (0 ≤ v7 ∧ v7 < ((gI σ (ra 118) ((gI σ (jx ja 4) r18.toNat) + 1).toNat) - (gI σ (ra 118) (gI σ (jx ja 4) r18.toNat).toNat))))) → ((4000 - v8).toNat) < fu108 → wl_X16_isShown_108 ra jx rm (wl_X16_isShown_91 ra jx rm Q X fu91) Q X fu108 τ91 (gI σ (jx ja 4) r18.toNat) ((gI σ (ra 118) ((gI σ (jx ja 4) r18.toNat) + 1).toNat) - (gI σ (ra 118) (gI σ (jx ja 4) r18.toNat).toNat)) v6 v7 v8 := by
                    intro fu108
                    induction fu108 with
                    | zero => intro  _ _ _ h9; omega
                    | succ fu108 ih108 =>
                      intro v7 v8 hi108 hm108
                      unfold wl_X16_isShown_108
                      unfold w_X16_isShown_108
                      try simp only [forall_eq, rII, rIJ, rIP, rJJ, rJI, rJP, rPP, rPI, rPJ, g1, g2, g3, g4, g5, g6, g7, g8, Nat.reduceEqDiff, Nat.reduceAdd, false_and, and_false, true_and, and_true, reduceIte, nZ0, nZ1, eτ91_83.1, eτ91_83.2, eτ91_86.1, eτ91_86.2, eτ91_87.1, eτ91_87.2, eτ91_89.1, eτ91_89.2, eτ91_115.1, eτ91_115.2, eτ91_118.1, eτ91_118.2, fun a k => (jτ91 a k).1, fun a k => (jτ91 a k).2, pτ91]
                      split
                      · rename_i hc112
                        skip
                        unfold w_X16_isShown_204
                        try simp only [forall_eq, rII, rIJ, rIP, rJJ, rJI, rJP, rPP, rPI, rPJ, g1, g2, g3, g4, g5, g6, g7, g8, Nat.reduceEqDiff, Nat.reduceAdd, false_and, and_false, true_and, and_true, reduceIte, nZ0, nZ1, eτ91_83.1, eτ91_83.2, eτ91_86.1, eτ91_86.2, eτ91_87.1, eτ91_87.2, eτ91_89.1, eτ91_89.2, eτ91_115.1, eτ91_115.2, eτ91_118.1, eτ91_118.2, fun a k => (jτ91 a k).1, fun a k => (jτ91 a k).2, pτ91]
                        split
                        · rename_i hc207
                          skip
                          unfold w_X16_isShown_214
                          try simp only [forall_eq, rII, rIJ, rIP, rJJ, rJI, rJP, rPP, rPI, rPJ, g1, g2, g3, g4, g5, g6, g7, g8, Nat.reduceEqDiff, Nat.reduceAdd, false_and, and_false, true_and, and_true, reduceIte, nZ0, nZ1, eτ91_83.1, eτ91_83.2, eτ91_86.1, eτ91_86.2, eτ91_87.1, eτ91_87.2, eτ91_89.1, eτ91_89.2, eτ91_115.1, eτ91_115.2, eτ91_118.1, eτ91_118.2, fun a k => (jτ91 a k).1, fun a k => (jτ91 a k).2, pτ91]
                          unfold w_X16_isShown_215
                          try simp only [forall_eq, rII, rIJ, rIP, rJJ, rJI, rJP, rPP, rPI, rPJ, g1, g2, g3, g4, g5, g6, g7, g8, Nat.reduceEqDiff, Nat.reduceAdd, false_and, and_false, true_and, and_true, reduceIte, nZ0, nZ1, eτ91_83.1, eτ91_83.2, eτ91_86.1, eτ91_86.2, eτ91_87.1, eτ91_87.2, eτ91_89.1, eτ91_89.2, eτ91_115.1, eτ91_115.2, eτ91_118.1, eτ91_118.2, fun a k => (jτ91 a k).1, fun a k => (jτ91 a k).2, pτ91]
                          try rw [if_pos (by decide)]
                          unfold w_X16_isShown_230
                          try simp only [forall_eq, rII, rIJ, rIP, rJJ, rJI, rJP, rPP, rPI, rPJ, g1, g2, g3, g4, g5, g6, g7, g8, Nat.reduceEqDiff, Nat.reduceAdd, false_and, and_false, true_and, and_true, reduceIte, nZ0, nZ1, eτ91_83.1, eτ91_83.2, eτ91_86.1, eτ91_86.2, eτ91_87.1, eτ91_87.2, eτ91_89.1, eτ91_89.2, eτ91_115.1, eτ91_115.2, eτ91_118.1, eτ91_118.2, fun a k => (jτ91 a k).1, fun a k => (jτ91 a k).2, pτ91]
                          refine ⟨by (first | omega | with_reducible assumption | (unfold rng; omega) | (unfold rng; (repeat' split) <;> omega) | decide), ?_⟩
                          have q7 := rσ.1 86 (v6.toNat); simp only [rgT] at q7
                          refine ih91 _ _ _ ?_ ?_ ?_ ?_
                          · exact rτ91
                          · exact fτ91
                          · refine ⟨by omega, ?_⟩; first | omega | (rcases hls with q | q; exact Or.inl q.2.1; exact Or.inr q.2.1) | (rcases n64 with q | q; exact Or.inl q.2; exact Or.inr q.2.1)
                          · (try simp only [rII, rIJ, rIP, rJJ, rJI, rJP, rPP, rPI, rPJ, g1, g2, g3, g4, g5, g6, g7, g8, Nat.reduceEqDiff, Nat.reduceAdd, false_and, and_false, true_and, and_true, reduceIte, nZ0, nZ1, eτ91_83.1, eτ91_83.2, eτ91_86.1, eτ91_86.2, eτ91_87.1, eτ91_87.2, eτ91_89.1, eτ91_89.2, eτ91_115.1, eτ91_115.2, eτ91_118.1, eτ91_118.2, fun a k => (jτ91 a k).1, fun a k => (jτ91 a k).2, pτ91]) <;> (first | omega | with_reducible assumption | (unfold rng; omega) | (unfold rng; (repeat' split) <;> omega) | decide)
                        · rename_i hc207
                          skip
                          unfold w_X16_isShown_210
                          try simp only [forall_eq, rII, rIJ, rIP, rJJ, rJI, rJP, rPP, rPI, rPJ, g1, g2, g3, g4, g5, g6, g7, g8, Nat.reduceEqDiff, Nat.reduceAdd, false_and, and_false, true_and, and_true, reduceIte, nZ0, nZ1, eτ91_83.1, eτ91_83.2, eτ91_86.1, eτ91_86.2, eτ91_87.1, eτ91_87.2, eτ91_89.1, eτ91_89.2, eτ91_115.1, eτ91_115.2, eτ91_118.1, eτ91_118.2, fun a k => (jτ91 a k).1, fun a k => (jτ91 a k).2, pτ91]
                          unfold w_X16_isShown_215
                          try simp only [forall_eq, rII, rIJ, rIP, rJJ, rJI, rJP, rPP, rPI, rPJ, g1, g2, g3, g4, g5, g6, g7, g8, Nat.reduceEqDiff, Nat.reduceAdd, false_and, and_false, true_and, and_true, reduceIte, nZ0, nZ1, eτ91_83.1, eτ91_83.2, eτ91_86.1, eτ91_86.2, eτ91_87.1, eτ91_87.2, eτ91_89.1, eτ91_89.2, eτ91_115.1, eτ91_115.2, eτ91_118.1, eτ91_118.2, fun a k => (jτ91 a k).1, fun a k => (jτ91 a k).2, pτ91]
                          try rw [if_neg (by decide)]
                          unfold w_X16_isShown_222
                          try simp only [forall_eq, rII, rIJ, rIP, rJJ, rJI, rJP, rPP, rPI, rPJ, g1, g2, g3, g4, g5, g6, g7, g8, Nat.reduceEqDiff, Nat.reduceAdd, false_and, and_false, true_and, and_true, reduceIte, nZ0, nZ1, eτ91_83.1, eτ91_83.2, eτ91_86.1, eτ91_86.2, eτ91_87.1, eτ91_87.2, eτ91_89.1, eτ91_89.2, eτ91_115.1, eτ91_115.2, eτ91_118.1, eτ91_118.2, fun a k => (jτ91 a k).1, fun a k => (jτ91 a k).2, pτ91]
                          refine ⟨by (first | omega | with_reducible assumption | (unfold rng; omega) | (unfold rng; (repeat' split) <;> omega) | decide), ?_⟩
                          unfold w_X16_isShown_230
                          try simp only [forall_eq, rII, rIJ, rIP, rJJ, rJI, rJP, rPP, rPI, rPJ, g1, g2, g3, g4, g5, g6, g7, g8, Nat.reduceEqDiff, Nat.reduceAdd, false_and, and_false, true_and, and_true, reduceIte, nZ0, nZ1, eτ91_83.1, eτ91_83.2, eτ91_86.1, eτ91_86.2, eτ91_87.1, eτ91_87.2, eτ91_89.1, eτ91_89.2, eτ91_115.1, eτ91_115.2, eτ91_118.1, eτ91_118.2, fun a k => (jτ91 a k).1, fun a k => (jτ91 a k).2, pτ91]
                          refine ⟨by (first | omega | with_reducible assumption | (unfold rng; omega) | (unfold rng; (repeat' split) <;> omega) | decide), ?_⟩
                          have q8 := rσ.1 86 (v6.toNat); simp only [rgT] at q8
                          refine ih91 _ _ _ ?_ ?_ ?_ ?_
                          · refine Rg.aI g ?_ (by simp only [rgT]; first | with_reducible exact nZ_rng _ | with_reducible exact nB_rng _ | with_reducible exact wr_rng _ | with_reducible exact i32any _ | (first | omega | with_reducible assumption | (unfold rng; omega) | (unfold rng; (repeat' split) <;> omega) | decide)); exact rτ91
                          · refine Fr.aI g ?_ (by decide); exact fτ91
                          · refine ⟨by omega, ?_⟩; first | omega | (rcases hls with q | q; exact Or.inl q.2.1; exact Or.inr q.2.1) | (rcases n64 with q | q; exact Or.inl q.2; exact Or.inr q.2.1)
                          · (try simp only [rII, rIJ, rIP, rJJ, rJI, rJP, rPP, rPI, rPJ, g1, g2, g3, g4, g5, g6, g7, g8, Nat.reduceEqDiff, Nat.reduceAdd, false_and, and_false, true_and, and_true, reduceIte, nZ0, nZ1, eτ91_83.1, eτ91_83.2, eτ91_86.1, eτ91_86.2, eτ91_87.1, eτ91_87.2, eτ91_89.1, eτ91_89.2, eτ91_115.1, eτ91_115.2, eτ91_118.1, eτ91_118.2, fun a k => (jτ91 a k).1, fun a k => (jτ91 a k).2, pτ91]) <;> (first | omega | with_reducible assumption | (unfold rng; omega) | (unfold rng; (repeat' split) <;> omega) | decide)
                      · rename_i hc112
                        skip
                        unfold w_X16_isShown_115
                        try simp only [forall_eq, rII, rIJ, rIP, rJJ, rJI, rJP, rPP, rPI, rPJ, g1, g2, g3, g4, g5, g6, g7, g8, Nat.reduceEqDiff, Nat.reduceAdd, false_and, and_false, true_and, and_true, reduceIte, nZ0, nZ1, eτ91_83.1, eτ91_83.2, eτ91_86.1, eτ91_86.2, eτ91_87.1, eτ91_87.2, eτ91_89.1, eτ91_89.2, eτ91_115.1, eτ91_115.2, eτ91_118.1, eτ91_118.2, fun a k => (jτ91 a k).1, fun a k => (jτ91 a k).2, pτ91]
                        split
                        · rename_i hc118
                          skip
                          unfold w_X16_isShown_204
                          try simp only [forall_eq, rII, rIJ, rIP, rJJ, rJI, rJP, rPP, rPI, rPJ, g1, g2, g3, g4, g5, g6, g7, g8, Nat.reduceEqDiff, Nat.reduceAdd, false_and, and_false, true_and, and_true, reduceIte, nZ0, nZ1, eτ91_83.1, eτ91_83.2, eτ91_86.1, eτ91_86.2, eτ91_87.1, eτ91_87.2, eτ91_89.1, eτ91_89.2, eτ91_115.1, eτ91_115.2, eτ91_118.1, eτ91_118.2, fun a k => (jτ91 a k).1, fun a k => (jτ91 a k).2, pτ91]
                          rw [if_neg (show ¬ (v7 = (-1)) by omega)]
                          unfold w_X16_isShown_210
                          try simp only [forall_eq, rII, rIJ, rIP, rJJ, rJI, rJP, rPP, rPI, rPJ, g1, g2, g3, g4, g5, g6, g7, g8, Nat.reduceEqDiff, Nat.reduceAdd, false_and, and_false, true_and, and_true, reduceIte, nZ0, nZ1, eτ91_83.1, eτ91_83.2, eτ91_86.1, eτ91_86.2, eτ91_87.1, eτ91_87.2, eτ91_89.1, eτ91_89.2, eτ91_115.1, eτ91_115.2, eτ91_118.1, eτ91_118.2, fun a k => (jτ91 a k).1, fun a k => (jτ91 a k).2, pτ91]
                          unfold w_X16_isShown_215
                          try simp only [forall_eq, rII, rIJ, rIP, rJJ, rJI, rJP, rPP, rPI, rPJ, g1, g2, g3, g4, g5, g6, g7, g8, Nat.reduceEqDiff, Nat.reduceAdd, false_and, and_false, true_and, and_true, reduceIte, nZ0, nZ1, eτ91_83.1, eτ91_83.2, eτ91_86.1, eτ91_86.2, eτ91_87.1, eτ91_87.2, eτ91_89.1, eτ91_89.2, eτ91_115.1, eτ91_115.2, eτ91_118.1, eτ91_118.2, fun a k => (jτ91 a k).1, fun a k => (jτ91 a k).2, pτ91]
                          try rw [if_neg (by decide)]
                          unfold w_X16_isShown_222
                          try simp only [forall_eq, rII, rIJ, rIP, rJJ, rJI, rJP, rPP, rPI, rPJ, g1, g2, g3, g4, g5, g6, g7, g8, Nat.reduceEqDiff, Nat.reduceAdd, false_and, and_false, true_and, and_true, reduceIte, nZ0, nZ1, eτ91_83.1, eτ91_83.2, eτ91_86.1, eτ91_86.2, eτ91_87.1, eτ91_87.2, eτ91_89.1, eτ91_89.2, eτ91_115.1, eτ91_115.2, eτ91_118.1, eτ91_118.2, fun a k => (jτ91 a k).1, fun a k => (jτ91 a k).2, pτ91]
                          refine ⟨by (first | omega | with_reducible assumption | (unfold rng; omega) | (unfold rng; (repeat' split) <;> omega) | decide), ?_⟩
                          unfold w_X16_isShown_230
                          try simp only [forall_eq, rII, rIJ, rIP, rJJ, rJI, rJP, rPP, rPI, rPJ, g1, g2, g3, g4, g5, g6, g7, g8, Nat.reduceEqDiff, Nat.reduceAdd, false_and, and_false, true_and, and_true, reduceIte, nZ0, nZ1, eτ91_83.1, eτ91_83.2, eτ91_86.1, eτ91_86.2, eτ91_87.1, eτ91_87.2, eτ91_89.1, eτ91_89.2, eτ91_115.1, eτ91_115.2, eτ91_118.1, eτ91_118.2, fun a k => (jτ91 a k).1, fun a k => (jτ91 a k).2, pτ91]
                          refine ⟨by (first | omega | with_reducible assumption | (unfold rng; omega) | (unfold rng; (repeat' split) <;> omega) | decide), ?_⟩
                          have q9 := rσ.1 86 (v6.toNat); simp only [rgT] at q9
                          refine ih91 _ _ _ ?_ ?_ ?_ ?_
                          · refine Rg.aI g ?_ (by simp only [rgT]; first | with_reducible exact nZ_rng _ | with_reducible exact nB_rng _ | with_reducible exact wr_rng _ | with_reducible exact i32any _ | (first | omega | with_reducible assumption | (unfold rng; omega) | (unfold rng; (repeat' split) <;> omega) | decide)); exact rτ91
                          · refine Fr.aI g ?_ (by decide); exact fτ91
                          · refine ⟨by omega, ?_⟩; first | omega | (rcases hls with q | q; exact Or.inl q.2.1; exact Or.inr q.2.1) | (rcases n64 with q | q; exact Or.inl q.2; exact Or.inr q.2.1)
                          · (try simp only [rII, rIJ, rIP, rJJ, rJI, rJP, rPP, rPI, rPJ, g1, g2, g3, g4, g5, g6, g7, g8, Nat.reduceEqDiff, Nat.reduceAdd, false_and, and_false, true_and, and_true, reduceIte, nZ0, nZ1, eτ91_83.1, eτ91_83.2, eτ91_86.1, eτ91_86.2, eτ91_87.1, eτ91_87.2, eτ91_89.1, eτ91_89.2, eτ91_115.1, eτ91_115.2, eτ91_118.1, eτ91_118.2, fun a k => (jτ91 a k).1, fun a k => (jτ91 a k).2, pτ91]) <;> (first | omega | with_reducible assumption | (unfold rng; omega) | (unfold rng; (repeat' split) <;> omega) | decide)
                        · rename_i hc118
                          skip
                          unfold w_X16_isShown_121
                          try simp only [forall_eq, rII, rIJ, rIP, rJJ, rJI, rJP, rPP, rPI, rPJ, g1, g2, g3, g4, g5, g6, g7, g8, Nat.reduceEqDiff, Nat.reduceAdd, false_and, and_false, true_and, and_true, reduceIte, nZ0, nZ1, eτ91_83.1, eτ91_83.2, eτ91_86.1, eτ91_86.2, eτ91_87.1, eτ91_87.2, eτ91_89.1, eτ91_89.2, eτ91_115.1, eτ91_115.2, eτ91_118.1, eτ91_118.2, fun a k => (jτ91 a k).1, fun a k => (jτ91 a k).2, pτ91]
                          refine ⟨by (first | omega | with_reducible assumption | (unfold rng; omega) | (unfold rng; (repeat' split) <;> omega) | decide), ?_⟩
                          refine ⟨by (first | omega | with_reducible assumption | (unfold rng; omega) | (unfold rng; (repeat' split) <;> omega) | decide), ?_⟩
                          refine ⟨by (first | omega | with_reducible assumption | (unfold rng; omega) | (unfold rng; (repeat' split) <;> omega) | decide), ?_⟩
                          have q10 := rτ91.1 120 (v8.toNat); simp only [rgT] at q10
                          split
                          · rename_i hc139
                            skip
                            unfold w_X16_isShown_195
                            try simp only [forall_eq, rII, rIJ, rIP, rJJ, rJI, rJP, rPP, rPI, rPJ, g1, g2, g3, g4, g5, g6, g7, g8, Nat.reduceEqDiff, Nat.reduceAdd, false_and, and_false, true_and, and_true, reduceIte, nZ0, nZ1, eτ91_83.1, eτ91_83.2, eτ91_86.1, eτ91_86.2, eτ91_87.1, eτ91_87.2, eτ91_89.1, eτ91_89.2, eτ91_115.1, eτ91_115.2, eτ91_118.1, eτ91_118.2, fun a k => (jτ91 a k).1, fun a k => (jτ91 a k).2, pτ91]
                            unfold w_X16_isShown_196
                            try simp only [forall_eq, rII, rIJ, rIP, rJJ, rJI, rJP, rPP, rPI, rPJ, g1, g2, g3, g4, g5, g6, g7, g8, Nat.reduceEqDiff, Nat.reduceAdd, false_and, and_false, true_and, and_true, reduceIte, nZ0, nZ1, eτ91_83.1, eτ91_83.2, eτ91_86.1, eτ91_86.2, eτ91_87.1, eτ91_87.2, eτ91_89.1, eτ91_89.2, eτ91_115.1, eτ91_115.2, eτ91_118.1, eτ91_118.2, fun a k => (jτ91 a k).1, fun a k => (jτ91 a k).2, pτ91]
                            refine ⟨by (first | omega | with_reducible assumption | (unfold rng; omega) | (unfold rng; (repeat' split) <;> omega) | decide), ?_⟩
                            refine ih108 _ _ ?_ ?_
                            · exact ⟨by omega, by omega⟩
                            · (try simp only [rII, rIJ, rIP, rJJ, rJI, rJP, rPP, rPI, rPJ, g1, g2, g3, g4, g5, g6, g7, g8, Nat.reduceEqDiff, Nat.reduceAdd, false_and, and_false, true_and, and_true, reduceIte, nZ0, nZ1, eτ91_83.1, eτ91_83.2, eτ91_86.1, eτ91_86.2, eτ91_87.1, eτ91_87.2, eτ91_89.1, eτ91_89.2, eτ91_115.1, eτ91_115.2, eτ91_118.1, eτ91_118.2, fun a k => (jτ91 a k).1, fun a k => (jτ91 a k).2, pτ91]) <;> (first | omega | with_reducible assumption | (unfold rng; omega) | (unfold rng; (repeat' split) <;> omega) | decide)
                          · rename_i hc139
                            skip
                            unfold w_X16_isShown_142
                            try simp only [forall_eq, rII, rIJ, rIP, rJJ, rJI, rJP, rPP, rPI, rPJ, g1, g2, g3, g4, g5, g6, g7, g8, Nat.reduceEqDiff, Nat.reduceAdd, false_and, and_false, true_and, and_true, reduceIte, nZ0, nZ1, eτ91_83.1, eτ91_83.2, eτ91_86.1, eτ91_86.2, eτ91_87.1, eτ91_87.2, eτ91_89.1, eτ91_89.2, eτ91_115.1, eτ91_115.2, eτ91_118.1, eτ91_118.2, fun a k => (jτ91 a k).1, fun a k => (jτ91 a k).2, pτ91]
                            refine ⟨by (first | omega | with_reducible assumption | (unfold rng; omega) | (unfold rng; (repeat' split) <;> omega) | decide), ?_⟩
                            refine ⟨by (first | omega | with_reducible assumption | (unfold rng; omega) | (unfold rng; (repeat' split) <;> omega) | decide), ?_⟩
                            refine ⟨by (first | omega | with_reducible assumption | (unfold rng; omega) | (unfold rng; (repeat' split) <;> omega) | decide), ?_⟩
                            refine ⟨by (first | omega | with_reducible assumption | (unfold rng; omega) | (unfold rng; (repeat' split) <;> omega) | decide), ?_⟩
                            refine ⟨ja, by exact hj, hja, ?_⟩
                            refine ⟨by (first | omega | with_reducible assumption | (unfold rng; omega) | (unfold rng; (repeat' split) <;> omega) | decide), ?_⟩
                            have q11 := rσ.2.2.1 ja 6 ((gI σ (jx ja 4) r18.toNat).toNat); simp only [rgJ] at q11
                            refine s_X16_order (b3 := (ra 84)) (n3 := 16000) (b7 := (ra 116)) (n7 := 32000) g rτ91 rfl (Or.inl ⟨84, rfl, by decide⟩) rfl (Or.inl ⟨116, rfl, by decide⟩) (by (try simp only [rII, rIJ, rIP, rJJ, rJI, rJP, rPP, rPI, rPJ, g1, g2, g3, g4, g5, g6, g7, g8, Nat.reduceEqDiff, Nat.reduceAdd, false_and, and_false, true_and, and_true, reduceIte, nZ0, nZ1, eτ91_83.1, eτ91_83.2, eτ91_86.1, eτ91_86.2, eτ91_87.1, eτ91_87.2, eτ91_89.1, eτ91_89.2, eτ91_115.1, eτ91_115.2, eτ91_118.1, eτ91_118.2, fun a k => (jτ91 a k).1, fun a k => (jτ91 a k).2, pτ91]) <;> (first | omega | with_reducible assumption | (unfold rng; omega) | (unfold rng; (repeat' split) <;> omega) | decide)) (by (try simp only [rII, rIJ, rIP, rJJ, rJI, rJP, rPP, rPI, rPJ, g1, g2, g3, g4, g5, g6, g7, g8, Nat.reduceEqDiff, Nat.reduceAdd, false_and, and_false, true_and, and_true, reduceIte, nZ0, nZ1, eτ91_83.1, eτ91_83.2, eτ91_86.1, eτ91_86.2, eτ91_87.1, eτ91_87.2, eτ91_89.1, eτ91_89.2, eτ91_115.1, eτ91_115.2, eτ91_118.1, eτ91_118.2, fun a k => (jτ91 a k).1, fun a k => (jτ91 a k).2, pτ91]) <;> (first | omega | with_reducible assumption | (unfold rng; omega) | (unfold rng; (repeat' split) <;> omega) | decide)) (by (try simp only [rII, rIJ, rIP, rJJ, rJI, rJP, rPP, rPI, rPJ, g1, g2, g3, g4, g5, g6, g7, g8, Nat.reduceEqDiff, Nat.reduceAdd, false_and, and_false, true_and, and_true, reduceIte, nZ0, nZ1, eτ91_83.1, eτ91_83.2, eτ91_86.1, eτ91_86.2, eτ91_87.1, eτ91_87.2, eτ91_89.1, eτ91_89.2, eτ91_115.1, eτ91_115.2, eτ91_118.1, eτ91_118.2, fun a k => (jτ91 a k).1, fun a k => (jτ91 a k).2, pτ91]) <;> (first | omega | with_reducible assumption | (unfold rng; omega) | (unfold rng; (repeat' split) <;> omega) | decide)) (by (try simp only [rII, rIJ, rIP, rJJ, rJI, rJP, rPP, rPI, rPJ, g1, g2, g3, g4, g5, g6, g7, g8, Nat.reduceEqDiff, Nat.reduceAdd, false_and, and_false, true_and, and_true, reduceIte, nZ0, nZ1, eτ91_83.1, eτ91_83.2, eτ91_86.1, eτ91_86.2, eτ91_87.1, eτ91_87.2, eτ91_89.1, eτ91_89.2, eτ91_115.1, eτ91_115.2, eτ91_118.1, eτ91_118.2, fun a k => (jτ91 a k).1, fun a k => (jτ91 a k).2, pτ91]) <;> (first | omega | with_reducible assumption | (unfold rng; omega) | (unfold rng; (repeat' split) <;> omega) | decide)) (by (try simp only [rII, rIJ, rIP, rJJ, rJI, rJP, rPP, rPI, rPJ, g1, g2, g3, g4, g5, g6, g7, g8, Nat.reduceEqDiff, Nat.reduceAdd, false_and, and_false, true_and, and_true, reduceIte, nZ0, nZ1, eτ91_83.1, eτ91_83.2, eτ91_86.1, eτ91_86.2, eτ91_87.1, eτ91_87.2, eτ91_89.1, eτ91_89.2, eτ91_115.1, eτ91_115.2, eτ91_118.1, eτ91_118.2, fun a k => (jτ91 a k).1, fun a k => (jτ91 a k).2, pτ91]) <;> (first | omega | with_reducible assumption | (unfold rng; omega) | (unfold rng; (repeat' split) <;> omega) | decide)) (fun r24 p12 => ?_)
                            try simp only [forall_eq, rII, rIJ, rIP, rJJ, rJI, rJP, rPP, rPI, rPJ, g1, g2, g3, g4, g5, g6, g7, g8, Nat.reduceEqDiff, Nat.reduceAdd, false_and, and_false, true_and, and_true, reduceIte, nZ0, nZ1, eτ91_83.1, eτ91_83.2, eτ91_86.1, eτ91_86.2, eτ91_87.1, eτ91_87.2, eτ91_89.1, eτ91_89.2, eτ91_115.1, eτ91_115.2, eτ91_118.1, eτ91_118.2, fun a k => (jτ91 a k).1, fun a k => (jτ91 a k).2, pτ91]
                            split
                            · rename_i hc187
                              skip
                              unfold w_X16_isShown_195
                              try simp only [forall_eq, rII, rIJ, rIP, rJJ, rJI, rJP, rPP, rPI, rPJ, g1, g2, g3, g4, g5, g6, g7, g8, Nat.reduceEqDiff, Nat.reduceAdd, false_and, and_false, true_and, and_true, reduceIte, nZ0, nZ1, eτ91_83.1, eτ91_83.2, eτ91_86.1, eτ91_86.2, eτ91_87.1, eτ91_87.2, eτ91_89.1, eτ91_89.2, eτ91_115.1, eτ91_115.2, eτ91_118.1, eτ91_118.2, fun a k => (jτ91 a k).1, fun a k => (jτ91 a k).2, pτ91]
                              unfold w_X16_isShown_196
                              try simp only [forall_eq, rII, rIJ, rIP, rJJ, rJI, rJP, rPP, rPI, rPJ, g1, g2, g3, g4, g5, g6, g7, g8, Nat.reduceEqDiff, Nat.reduceAdd, false_and, and_false, true_and, and_true, reduceIte, nZ0, nZ1, eτ91_83.1, eτ91_83.2, eτ91_86.1, eτ91_86.2, eτ91_87.1, eτ91_87.2, eτ91_89.1, eτ91_89.2, eτ91_115.1, eτ91_115.2, eτ91_118.1, eτ91_118.2, fun a k => (jτ91 a k).1, fun a k => (jτ91 a k).2, pτ91]
                              refine ⟨by (first | omega | with_reducible assumption | (unfold rng; omega) | (unfold rng; (repeat' split) <;> omega) | decide), ?_⟩
                              refine ih108 _ _ ?_ ?_
                              · exact ⟨by omega, by omega⟩
                              · (try simp only [rII, rIJ, rIP, rJJ, rJI, rJP, rPP, rPI, rPJ, g1, g2, g3, g4, g5, g6, g7, g8, Nat.reduceEqDiff, Nat.reduceAdd, false_and, and_false, true_and, and_true, reduceIte, nZ0, nZ1, eτ91_83.1, eτ91_83.2, eτ91_86.1, eτ91_86.2, eτ91_87.1, eτ91_87.2, eτ91_89.1, eτ91_89.2, eτ91_115.1, eτ91_115.2, eτ91_118.1, eτ91_118.2, fun a k => (jτ91 a k).1, fun a k => (jτ91 a k).2, pτ91]) <;> (first | omega | with_reducible assumption | (unfold rng; omega) | (unfold rng; (repeat' split) <;> omega) | decide)
                            · rename_i hc187
                              skip
                              unfold w_X16_isShown_190
                              try simp only [forall_eq, rII, rIJ, rIP, rJJ, rJI, rJP, rPP, rPI, rPJ, g1, g2, g3, g4, g5, g6, g7, g8, Nat.reduceEqDiff, Nat.reduceAdd, false_and, and_false, true_and, and_true, reduceIte, nZ0, nZ1, eτ91_83.1, eτ91_83.2, eτ91_86.1, eτ91_86.2, eτ91_87.1, eτ91_87.2, eτ91_89.1, eτ91_89.2, eτ91_115.1, eτ91_115.2, eτ91_118.1, eτ91_118.2, fun a k => (jτ91 a k).1, fun a k => (jτ91 a k).2, pτ91]
                              unfold w_X16_isShown_196
                              try simp only [forall_eq, rII, rIJ, rIP, rJJ, rJI, rJP, rPP, rPI, rPJ, g1, g2, g3, g4, g5, g6, g7, g8, Nat.reduceEqDiff, Nat.reduceAdd, false_and, and_false, true_and, and_true, reduceIte, nZ0, nZ1, eτ91_83.1, eτ91_83.2, eτ91_86.1, eτ91_86.2, eτ91_87.1, eτ91_87.2, eτ91_89.1, eτ91_89.2, eτ91_115.1, eτ91_115.2, eτ91_118.1, eτ91_118.2, fun a k => (jτ91 a k).1, fun a k => (jτ91 a k).2, pτ91]
                              refine ⟨by (first | omega | with_reducible assumption | (unfold rng; omega) | (unfold rng; (repeat' split) <;> omega) | decide), ?_⟩
                              refine ih108 _ _ ?_ ?_
                              · exact ⟨by omega, by omega⟩
                              · (try simp only [rII, rIJ, rIP, rJJ, rJI, rJP, rPP, rPI, rPJ, g1, g2, g3, g4, g5, g6, g7, g8, Nat.reduceEqDiff, Nat.reduceAdd, false_and, and_false, true_and, and_true, reduceIte, nZ0, nZ1, eτ91_83.1, eτ91_83.2, eτ91_86.1, eτ91_86.2, eτ91_87.1, eτ91_87.2, eτ91_89.1, eτ91_89.2, eτ91_115.1, eτ91_115.2, eτ91_118.1, eτ91_118.2, fun a k => (jτ91 a k).1, fun a k => (jτ91 a k).2, pτ91]) <;> (first | omega | with_reducible assumption | (unfold rng; omega) | (unfold rng; (repeat' split) <;> omega) | decide)
                  refine ⟨_, L108 _ _ _ ?_ (Nat.lt_succ_self _)⟩
                  · exact ⟨by omega, by omega⟩
          refine ⟨_, L91 _ _ _ _ ?_ ?_ ?_ (Nat.lt_succ_self _)⟩
          · exact rτ58
          · exact fτ58
          · refine ⟨by omega, ?_⟩; first | omega | (rcases hls with q | q; exact Or.inl q.2.1; exact Or.inr q.2.1) | (rcases n64 with q | q; exact Or.inl q.2; exact Or.inr q.2.1)
        · rename_i hc62
          skip
          unfold w_X16_isShown_65
          try simp only [forall_eq, rII, rIJ, rIP, rJJ, rJI, rJP, rPP, rPI, rPJ, g1, g2, g3, g4, g5, g6, g7, g8, Nat.reduceEqDiff, Nat.reduceAdd, false_and, and_false, true_and, and_true, reduceIte, nZ0, nZ1, eτ58_83.1, eτ58_83.2, eτ58_86.1, eτ58_86.2, eτ58_87.1, eτ58_87.2, eτ58_89.1, eτ58_89.2, eτ58_115.1, eτ58_115.2, eτ58_118.1, eτ58_118.2, fun a k => (jτ58 a k).1, fun a k => (jτ58 a k).2, pτ58]
          refine ⟨by (first | omega | with_reducible assumption | (unfold rng; omega) | (unfold rng; (repeat' split) <;> omega) | decide), ?_⟩
          refine ⟨by (first | omega | with_reducible assumption | (unfold rng; omega) | (unfold rng; (repeat' split) <;> omega) | decide), ?_⟩
          refine ih58 _ _ ?_ ?_ ?_ ?_
          · refine Rg.aI g ?_ (by simp only [rgT]; first | with_reducible exact nZ_rng _ | with_reducible exact nB_rng _ | with_reducible exact wr_rng _ | with_reducible exact i32any _ | (first | omega | with_reducible assumption | (unfold rng; omega) | (unfold rng; (repeat' split) <;> omega) | decide)); exact rτ58
          · refine Fr.aI g ?_ (by decide); exact fτ58
          · (try simp only [rII, rIJ, rIP, rJJ, rJI, rJP, rPP, rPI, rPJ, g1, g2, g3, g4, g5, g6, g7, g8, Nat.reduceEqDiff, Nat.reduceAdd, false_and, and_false, true_and, and_true, reduceIte, nZ0, nZ1, eτ58_83.1, eτ58_83.2, eτ58_86.1, eτ58_86.2, eτ58_87.1, eτ58_87.2, eτ58_89.1, eτ58_89.2, eτ58_115.1, eτ58_115.2, eτ58_118.1, eτ58_118.2, fun a k => (jτ58 a k).1, fun a k => (jτ58 a k).2, pτ58]) <;> (first | omega | with_reducible assumption | (unfold rng; omega) | (unfold rng; (repeat' split) <;> omega) | decide)
          · (try simp only [rII, rIJ, rIP, rJJ, rJI, rJP, rPP, rPI, rPJ, g1, g2, g3, g4, g5, g6, g7, g8, Nat.reduceEqDiff, Nat.reduceAdd, false_and, and_false, true_and, and_true, reduceIte, nZ0, nZ1, eτ58_83.1, eτ58_83.2, eτ58_86.1, eτ58_86.2, eτ58_87.1, eτ58_87.2, eτ58_89.1, eτ58_89.2, eτ58_115.1, eτ58_115.2, eτ58_118.1, eτ58_118.2, fun a k => (jτ58 a k).1, fun a k => (jτ58 a k).2, pτ58]) <;> (first | omega | with_reducible assumption | (unfold rng; omega) | (unfold rng; (repeat' split) <;> omega) | decide)
    refine ⟨_, L58 _ _ _ ?_ ?_ ?_ (Nat.lt_succ_self _)⟩
    · exact rσ
    · exact fσ
    · (try simp only [rII, rIJ, rIP, rJJ, rJI, rJP, rPP, rPI, rPJ, g1, g2, g3, g4, g5, g6, g7, g8, Nat.reduceEqDiff, Nat.reduceAdd, false_and, and_false, true_and, and_true, reduceIte, nZ0, nZ1]) <;> (first | omega | with_reducible assumption | (unfold rng; omega) | (unfold rng; (repeat' split) <;> omega) | decide)
  · rename_i hc45
    skip
    unfold w_X16_isShown_48
    try simp only [forall_eq, rII, rIJ, rIP, rJJ, rJI, rJP, rPP, rPI, rPJ, g1, g2, g3, g4, g5, g6, g7, g8, Nat.reduceEqDiff, Nat.reduceAdd, false_and, and_false, true_and, and_true, reduceIte, nZ0, nZ1]
    unfold w_X16_isShown_53
    try simp only [forall_eq, rII, rIJ, rIP, rJJ, rJI, rJP, rPP, rPI, rPJ, g1, g2, g3, g4, g5, g6, g7, g8, Nat.reduceEqDiff, Nat.reduceAdd, false_and, and_false, true_and, and_true, reduceIte, nZ0, nZ1]
    have L58 : ∀ (fu58 : Nat) (τ58 : Sg) (v6 : Int), Rg ra jx rm τ58 → Fr ra jx rm [120] [] σ τ58 → (0 ≤ v6) → ((4000 - v6).toNat) < fu58 → wl_X16_isShown_58 ra jx rm Q X fu58 τ58 v1 (gI σ (jx ja 4) r18.toNat) ((gI σ (ra 118) ((gI σ (jx ja 4) r18.toNat) + 1).toNat) - (gI σ (ra 118) (gI σ (jx ja 4) r18.toNat).toNat)) 1 v6 := by
      intro fu58
      induction fu58 with
      | zero => intro τ58 _ _ _ _ h9; omega
      | succ fu58 ih58 =>
        intro τ58 v6 rτ58 fτ58 hi58 hm58
        unfold wl_X16_isShown_58
        have eτ58_83 := fτ58.1 83 (by decide)
        have eτ58_86 := fτ58.1 86 (by decide)
        have eτ58_87 := fτ58.1 87 (by decide)
        have eτ58_89 := fτ58.1 89 (by decide)
        have eτ58_115 := fτ58.1 115 (by decide)
        have eτ58_118 := fτ58.1 118 (by decide)
        have jτ58 := fτ58.2.2.1
        have pτ58 := fτ58.2.2.2
        unfold w_X16_isShown_58
        try simp only [forall_eq, rII, rIJ, rIP, rJJ, rJI, rJP, rPP, rPI, rPJ, g1, g2, g3, g4, g5, g6, g7, g8, Nat.reduceEqDiff, Nat.reduceAdd, false_and, and_false, true_and, and_true, reduceIte, nZ0, nZ1, eτ58_83.1, eτ58_83.2, eτ58_86.1, eτ58_86.2, eτ58_87.1, eτ58_87.2, eτ58_89.1, eτ58_89.2, eτ58_115.1, eτ58_115.2, eτ58_118.1, eτ58_118.2, fun a k => (jτ58 a k).1, fun a k => (jτ58 a k).2, pτ58]
        split
        · rename_i hc62
          skip
          unfold w_X16_isShown_79
          try simp only [forall_eq, rII, rIJ, rIP, rJJ, rJI, rJP, rPP, rPI, rPJ, g1, g2, g3, g4, g5, g6, g7, g8, Nat.reduceEqDiff, Nat.reduceAdd, false_and, and_false, true_and, and_true, reduceIte, nZ0, nZ1, eτ58_83.1, eτ58_83.2, eτ58_86.1, eτ58_86.2, eτ58_87.1, eτ58_87.2, eτ58_89.1, eτ58_89.2, eτ58_115.1, eτ58_115.2, eτ58_118.1, eτ58_118.2, fun a k => (jτ58 a k).1, fun a k => (jτ58 a k).2, pτ58]
          refine ⟨by (first | omega | with_reducible assumption | (unfold rng; omega) | (unfold rng; (repeat' split) <;> omega) | decide), ?_⟩
          refine ⟨by (first | omega | with_reducible assumption | (unfold rng; omega) | (unfold rng; (repeat' split) <;> omega) | decide), ?_⟩
          refine ⟨by (first | omega | with_reducible assumption | (unfold rng; omega) | (unfold rng; (repeat' split) <;> omega) | decide), ?_⟩
          have q13 := rσ.1 87 (((3 * v1) + 2).toNat); simp only [rgT] at q13
          have L91 : ∀ (fu91 : Nat) (τ91 : Sg) (v5 : Int) (v6 : Int), Rg ra jx rm τ91 → Fr ra jx rm [120] [] σ τ91 → ((v5 = 0 ∨ v5 = 1) ∧ (v6 = -1 ∨ own v6 = 3 * v1 + 2)) → ((if v6 < 0 then 0 else mn (3 * v1 + 2) - ps v6).toNat) < fu91 → wl_X16_isShown_91 ra jx rm Q X fu91 τ91 (gI σ (jx ja 4) r18.toNat) ((gI σ (ra 118) ((gI σ (jx ja 4) r18.toNat) + 1).toNat) - (gI σ (ra 118) (gI σ (jx ja 4) r18.toNat).toNat)) v5 v6 := by
            intro fu91
            induction fu91 with
            | zero => intro τ91 _ _ _ _ _ h9; omega
            | succ fu91 ih91 =>
              intro τ91 v5 v6 rτ91 fτ91 hi91 hm91
              unfold wl_X16_isShown_91
              have eτ91_83 := fτ91.1 83 (by decide)
              have eτ91_86 := fτ91.1 86 (by decide)
              have eτ91_87 := fτ91.1 87 (by decide)
              have eτ91_89 := fτ91.1 89 (by decide)
              have eτ91_115 := fτ91.1 115 (by decide)
              have eτ91_118 := fτ91.1 118 (by decide)
              have jτ91 := fτ91.2.2.1
              have pτ91 := fτ91.2.2.2
              unfold w_X16_isShown_91
              try simp only [forall_eq, rII, rIJ, rIP, rJJ, rJI, rJP, rPP, rPI, rPJ, g1, g2, g3, g4, g5, g6, g7, g8, Nat.reduceEqDiff, Nat.reduceAdd, false_and, and_false, true_and, and_true, reduceIte, nZ0, nZ1, eτ91_83.1, eτ91_83.2, eτ91_86.1, eτ91_86.2, eτ91_87.1, eτ91_87.2, eτ91_89.1, eτ91_89.2, eτ91_115.1, eτ91_115.2, eτ91_118.1, eτ91_118.2, fun a k => (jτ91 a k).1, fun a k => (jτ91 a k).2, pτ91]
              split
              · rename_i hc94
                skip
                unfold w_X16_isShown_242
                try simp only [forall_eq, rII, rIJ, rIP, rJJ, rJI, rJP, rPP, rPI, rPJ, g1, g2, g3, g4, g5, g6, g7, g8, Nat.reduceEqDiff, Nat.reduceAdd, false_and, and_false, true_and, and_true, reduceIte, nZ0, nZ1, eτ91_83.1, eτ91_83.2, eτ91_86.1, eτ91_86.2, eτ91_87.1, eτ91_87.2, eτ91_89.1, eτ91_89.2, eτ91_115.1, eτ91_115.2, eτ91_118.1, eτ91_118.2, fun a k => (jτ91 a k).1, fun a k => (jτ91 a k).2, pτ91]
                refine ⟨by (first | omega | with_reducible assumption | (unfold rng; omega) | (unfold rng; (repeat' split) <;> omega) | decide), ?_⟩
                refine hQ _ _ ?_ ?_ ?_
                · exact rτ91
                · exact fτ91
                · (try simp only [rII, rIJ, rIP, rJJ, rJI, rJP, rPP, rPI, rPJ, g1, g2, g3, g4, g5, g6, g7, g8, Nat.reduceEqDiff, Nat.reduceAdd, false_and, and_false, true_and, and_true, reduceIte, nZ0, nZ1, eτ91_83.1, eτ91_83.2, eτ91_86.1, eτ91_86.2, eτ91_87.1, eτ91_87.2, eτ91_89.1, eτ91_89.2, eτ91_115.1, eτ91_115.2, eτ91_118.1, eτ91_118.2, fun a k => (jτ91 a k).1, fun a k => (jτ91 a k).2, pτ91]) <;> (first | omega | with_reducible assumption | (unfold rng; omega) | (unfold rng; (repeat' split) <;> omega) | decide)
              · rename_i hc94
                skip
                unfold w_X16_isShown_97
                try simp only [forall_eq, rII, rIJ, rIP, rJJ, rJI, rJP, rPP, rPI, rPJ, g1, g2, g3, g4, g5, g6, g7, g8, Nat.reduceEqDiff, Nat.reduceAdd, false_and, and_false, true_and, and_true, reduceIte, nZ0, nZ1, eτ91_83.1, eτ91_83.2, eτ91_86.1, eτ91_86.2, eτ91_87.1, eτ91_87.2, eτ91_89.1, eτ91_89.2, eτ91_115.1, eτ91_115.2, eτ91_118.1, eτ91_118.2, fun a k => (jτ91 a k).1, fun a k => (jτ91 a k).2, pτ91]
                have n6 := hG.nd (hi91.2.resolve_left (by assumption)) (by omega)
                have n61 := n6.1; have n62 := n6.2.1; have n63 := n6.2.2.1; have n64 := n6.2.2.2
                split
                · rename_i hc99
                  skip
                  unfold w_X16_isShown_242
                  try simp only [forall_eq, rII, rIJ, rIP, rJJ, rJI, rJP, rPP, rPI, rPJ, g1, g2, g3, g4, g5, g6, g7, g8, Nat.reduceEqDiff, Nat.reduceAdd, false_and, and_false, true_and, and_true, reduceIte, nZ0, nZ1, eτ91_83.1, eτ91_83.2, eτ91_86.1, eτ91_86.2, eτ91_87.1, eτ91_87.2, eτ91_89.1, eτ91_89.2, eτ91_115.1, eτ91_115.2, eτ91_118.1, eτ91_118.2, fun a k => (jτ91 a k).1, fun a k => (jτ91 a k).2, pτ91]
                  refine ⟨by (first | omega | with_reducible assumption | (unfold rng; omega) | (unfold rng; (repeat' split) <;> omega) | decide), ?_⟩
                  refine hQ _ _ ?_ ?_ ?_
                  · exact rτ91
                  · exact fτ91
                  · (try simp only [rII, rIJ, rIP, rJJ, rJI, rJP, rPP, rPI, rPJ, g1, g2, g3, g4, g5, g6, g7, g8, Nat.reduceEqDiff, Nat.reduceAdd, false_and, and_false, true_and, and_true, reduceIte, nZ0, nZ1, eτ91_83.1, eτ91_83.2, eτ91_86.1, eτ91_86.2, eτ91_87.1, eτ91_87.2, eτ91_89.1, eτ91_89.2, eτ91_115.1, eτ91_115.2, eτ91_118.1, eτ91_118.2, fun a k => (jτ91 a k).1, fun a k => (jτ91 a k).2, pτ91]) <;> (first | omega | with_reducible assumption | (unfold rng; omega) | (unfold rng; (repeat' split) <;> omega) | decide)
                · rename_i hc99
                  skip
                  unfold w_X16_isShown_102
                  try simp only [forall_eq, rII, rIJ, rIP, rJJ, rJI, rJP, rPP, rPI, rPJ, g1, g2, g3, g4, g5, g6, g7, g8, Nat.reduceEqDiff, Nat.reduceAdd, false_and, and_false, true_and, and_true, reduceIte, nZ0, nZ1, eτ91_83.1, eτ91_83.2, eτ91_86.1, eτ91_86.2, eτ91_87.1, eτ91_87.2, eτ91_89.1, eτ91_89.2, eτ91_115.1, eτ91_115.2, eτ91_118.1, eτ91_118.2, fun a k => (jτ91 a k).1, fun a k => (jτ91 a k).2, pτ91]
                  have L108 : ∀ (fu108 : Nat) (v7 : Int) (v8 : Int), (0 ≤ v8 ∧ (v7 = -1 ∨ (0 ≤ v7 ∧ v7 < ((gI σ (ra 118) ((gI σ (jx ja 4) r18.toNat) + 1).toNat) - (gI σ (ra 118) (gI σ (jx ja 4) r18.toNat).toNat))))) → ((4000 - v8).toNat) < fu108 → wl_X16_isShown_108 ra jx rm (wl_X16_isShown_91 ra jx rm Q X fu91) Q X fu108 τ91 (gI σ (jx ja 4) r18.toNat) ((gI σ (ra 118) ((gI σ (jx ja 4) r18.toNat) + 1).toNat) - (gI σ (ra 118) (gI σ (jx ja 4) r18.toNat).toNat)) v6 v7 v8 := by
                    intro fu108
                    induction fu108 with
                    | zero => intro  _ _ _ h9; omega
                    | succ fu108 ih108 =>
                      intro v7 v8 hi108 hm108
                      unfold wl_X16_isShown_108
                      unfold w_X16_isShown_108
                      try simp only [forall_eq, rII, rIJ, rIP, rJJ, rJI, rJP, rPP, rPI, rPJ, g1, g2, g3, g4, g5, g6, g7, g8, Nat.reduceEqDiff, Nat.reduceAdd, false_and, and_false, true_and, and_true, reduceIte, nZ0, nZ1, eτ91_83.1, eτ91_83.2, eτ91_86.1, eτ91_86.2, eτ91_87.1, eτ91_87.2, eτ91_89.1, eτ91_89.2, eτ91_115.1, eτ91_115.2, eτ91_118.1, eτ91_118.2, fun a k => (jτ91 a k).1, fun a k => (jτ91 a k).2, pτ91]
                      split
                      · rename_i hc112
                        skip
                        unfold w_X16_isShown_204
                        try simp only [forall_eq, rII, rIJ, rIP, rJJ, rJI, rJP, rPP, rPI, rPJ, g1, g2, g3, g4, g5, g6, g7, g8, Nat.reduceEqDiff, Nat.reduceAdd, false_and, and_false, true_and, and_true, reduceIte, nZ0, nZ1, eτ91_83.1, eτ91_83.2, eτ91_86.1, eτ91_86.2, eτ91_87.1, eτ91_87.2, eτ91_89.1, eτ91_89.2, eτ91_115.1, eτ91_115.2, eτ91_118.1, eτ91_118.2, fun a k => (jτ91 a k).1, fun a k => (jτ91 a k).2, pτ91]
                        split
                        · rename_i hc207
                          skip
                          unfold w_X16_isShown_214
                          try simp only [forall_eq, rII, rIJ, rIP, rJJ, rJI, rJP, rPP, rPI, rPJ, g1, g2, g3, g4, g5, g6, g7, g8, Nat.reduceEqDiff, Nat.reduceAdd, false_and, and_false, true_and, and_true, reduceIte, nZ0, nZ1, eτ91_83.1, eτ91_83.2, eτ91_86.1, eτ91_86.2, eτ91_87.1, eτ91_87.2, eτ91_89.1, eτ91_89.2, eτ91_115.1, eτ91_115.2, eτ91_118.1, eτ91_118.2, fun a k => (jτ91 a k).1, fun a k => (jτ91 a k).2, pτ91]
                          unfold w_X16_isShown_215
                          try simp only [forall_eq, rII, rIJ, rIP, rJJ, rJI, rJP, rPP, rPI, rPJ, g1, g2, g3, g4, g5, g6, g7, g8, Nat.reduceEqDiff, Nat.reduceAdd, false_and, and_false, true_and, and_true, reduceIte, nZ0, nZ1, eτ91_83.1, eτ91_83.2, eτ91_86.1, eτ91_86.2, eτ91_87.1, eτ91_87.2, eτ91_89.1, eτ91_89.2, eτ91_115.1, eτ91_115.2, eτ91_118.1, eτ91_118.2, fun a k => (jτ91 a k).1, fun a k => (jτ91 a k).2, pτ91]
                          try rw [if_pos (by decide)]
                          unfold w_X16_isShown_230
                          try simp only [forall_eq, rII, rIJ, rIP, rJJ, rJI, rJP, rPP, rPI, rPJ, g1, g2, g3, g4, g5, g6, g7, g8, Nat.reduceEqDiff, Nat.reduceAdd, false_and, and_false, true_and, and_true, reduceIte, nZ0, nZ1, eτ91_83.1, eτ91_83.2, eτ91_86.1, eτ91_86.2, eτ91_87.1, eτ91_87.2, eτ91_89.1, eτ91_89.2, eτ91_115.1, eτ91_115.2, eτ91_118.1, eτ91_118.2, fun a k => (jτ91 a k).1, fun a k => (jτ91 a k).2, pτ91]
                          refine ⟨by (first | omega | with_reducible assumption | (unfold rng; omega) | (unfold rng; (repeat' split) <;> omega) | decide), ?_⟩
                          have q14 := rσ.1 86 (v6.toNat); simp only [rgT] at q14
                          refine ih91 _ _ _ ?_ ?_ ?_ ?_
                          · exact rτ91
                          · exact fτ91
                          · refine ⟨by omega, ?_⟩; first | omega | (rcases hls with q | q; exact Or.inl q.2.1; exact Or.inr q.2.1) | (rcases n64 with q | q; exact Or.inl q.2; exact Or.inr q.2.1)
                          · (try simp only [rII, rIJ, rIP, rJJ, rJI, rJP, rPP, rPI, rPJ, g1, g2, g3, g4, g5, g6, g7, g8, Nat.reduceEqDiff, Nat.reduceAdd, false_and, and_false, true_and, and_true, reduceIte, nZ0, nZ1, eτ91_83.1, eτ91_83.2, eτ91_86.1, eτ91_86.2, eτ91_87.1, eτ91_87.2, eτ91_89.1, eτ91_89.2, eτ91_115.1, eτ91_115.2, eτ91_118.1, eτ91_118.2, fun a k => (jτ91 a k).1, fun a k => (jτ91 a k).2, pτ91]) <;> (first | omega | with_reducible assumption | (unfold rng; omega) | (unfold rng; (repeat' split) <;> omega) | decide)
                        · rename_i hc207
                          skip
                          unfold w_X16_isShown_210
                          try simp only [forall_eq, rII, rIJ, rIP, rJJ, rJI, rJP, rPP, rPI, rPJ, g1, g2, g3, g4, g5, g6, g7, g8, Nat.reduceEqDiff, Nat.reduceAdd, false_and, and_false, true_and, and_true, reduceIte, nZ0, nZ1, eτ91_83.1, eτ91_83.2, eτ91_86.1, eτ91_86.2, eτ91_87.1, eτ91_87.2, eτ91_89.1, eτ91_89.2, eτ91_115.1, eτ91_115.2, eτ91_118.1, eτ91_118.2, fun a k => (jτ91 a k).1, fun a k => (jτ91 a k).2, pτ91]
                          unfold w_X16_isShown_215
                          try simp only [forall_eq, rII, rIJ, rIP, rJJ, rJI, rJP, rPP, rPI, rPJ, g1, g2, g3, g4, g5, g6, g7, g8, Nat.reduceEqDiff, Nat.reduceAdd, false_and, and_false, true_and, and_true, reduceIte, nZ0, nZ1, eτ91_83.1, eτ91_83.2, eτ91_86.1, eτ91_86.2, eτ91_87.1, eτ91_87.2, eτ91_89.1, eτ91_89.2, eτ91_115.1, eτ91_115.2, eτ91_118.1, eτ91_118.2, fun a k => (jτ91 a k).1, fun a k => (jτ91 a k).2, pτ91]
                          try rw [if_neg (by decide)]
                          unfold w_X16_isShown_222
                          try simp only [forall_eq, rII, rIJ, rIP, rJJ, rJI, rJP, rPP, rPI, rPJ, g1, g2, g3, g4, g5, g6, g7, g8, Nat.reduceEqDiff, Nat.reduceAdd, false_and, and_false, true_and, and_true, reduceIte, nZ0, nZ1, eτ91_83.1, eτ91_83.2, eτ91_86.1, eτ91_86.2, eτ91_87.1, eτ91_87.2, eτ91_89.1, eτ91_89.2, eτ91_115.1, eτ91_115.2, eτ91_118.1, eτ91_118.2, fun a k => (jτ91 a k).1, fun a k => (jτ91 a k).2, pτ91]
                          refine ⟨by (first | omega | with_reducible assumption | (unfold rng; omega) | (unfold rng; (repeat' split) <;> omega) | decide), ?_⟩
                          unfold w_X16_isShown_230
                          try simp only [forall_eq, rII, rIJ, rIP, rJJ, rJI, rJP, rPP, rPI, rPJ, g1, g2, g3, g4, g5, g6, g7, g8, Nat.reduceEqDiff, Nat.reduceAdd, false_and, and_false, true_and, and_true, reduceIte, nZ0, nZ1, eτ91_83.1, eτ91_83.2, eτ91_86.1, eτ91_86.2, eτ91_87.1, eτ91_87.2, eτ91_89.1, eτ91_89.2, eτ91_115.1, eτ91_115.2, eτ91_118.1, eτ91_118.2, fun a k => (jτ91 a k).1, fun a k => (jτ91 a k).2, pτ91]
                          refine ⟨by (first | omega | with_reducible assumption | (unfold rng; omega) | (unfold rng; (repeat' split) <;> omega) | decide), ?_⟩
                          have q15 := rσ.1 86 (v6.toNat); simp only [rgT] at q15
                          refine ih91 _ _ _ ?_ ?_ ?_ ?_
                          · refine Rg.aI g ?_ (by simp only [rgT]; first | with_reducible exact nZ_rng _ | with_reducible exact nB_rng _ | with_reducible exact wr_rng _ | with_reducible exact i32any _ | (first | omega | with_reducible assumption | (unfold rng; omega) | (unfold rng; (repeat' split) <;> omega) | decide)); exact rτ91
                          · refine Fr.aI g ?_ (by decide); exact fτ91
                          · refine ⟨by omega, ?_⟩; first | omega | (rcases hls with q | q; exact Or.inl q.2.1; exact Or.inr q.2.1) | (rcases n64 with q | q; exact Or.inl q.2; exact Or.inr q.2.1)
                          · (try simp only [rII, rIJ, rIP, rJJ, rJI, rJP, rPP, rPI, rPJ, g1, g2, g3, g4, g5, g6, g7, g8, Nat.reduceEqDiff, Nat.reduceAdd, false_and, and_false, true_and, and_true, reduceIte, nZ0, nZ1, eτ91_83.1, eτ91_83.2, eτ91_86.1, eτ91_86.2, eτ91_87.1, eτ91_87.2, eτ91_89.1, eτ91_89.2, eτ91_115.1, eτ91_115.2, eτ91_118.1, eτ91_118.2, fun a k => (jτ91 a k).1, fun a k => (jτ91 a k).2, pτ91]) <;> (first | omega | with_reducible assumption | (unfold rng; omega) | (unfold rng; (repeat' split) <;> omega) | decide)
                      · rename_i hc112
                        skip
                        unfold w_X16_isShown_115
                        try simp only [forall_eq, rII, rIJ, rIP, rJJ, rJI, rJP, rPP, rPI, rPJ, g1, g2, g3, g4, g5, g6, g7, g8, Nat.reduceEqDiff, Nat.reduceAdd, false_and, and_false, true_and, and_true, reduceIte, nZ0, nZ1, eτ91_83.1, eτ91_83.2, eτ91_86.1, eτ91_86.2, eτ91_87.1, eτ91_87.2, eτ91_89.1, eτ91_89.2, eτ91_115.1, eτ91_115.2, eτ91_118.1, eτ91_118.2, fun a k => (jτ91 a k).1, fun a k => (jτ91 a k).2, pτ91]
                        split
                        · rename_i hc118
                          skip
                          unfold w_X16_isShown_204
                          try simp only [forall_eq, rII, rIJ, rIP, rJJ, rJI, rJP, rPP, rPI, rPJ, g1, g2, g3, g4, g5, g6, g7, g8, Nat.reduceEqDiff, Nat.reduceAdd, false_and, and_false, true_and, and_true, reduceIte, nZ0, nZ1, eτ91_83.1, eτ91_83.2, eτ91_86.1, eτ91_86.2, eτ91_87.1, eτ91_87.2, eτ91_89.1, eτ91_89.2, eτ91_115.1, eτ91_115.2, eτ91_118.1, eτ91_118.2, fun a k => (jτ91 a k).1, fun a k => (jτ91 a k).2, pτ91]
                          rw [if_neg (show ¬ (v7 = (-1)) by omega)]
                          unfold w_X16_isShown_210
                          try simp only [forall_eq, rII, rIJ, rIP, rJJ, rJI, rJP, rPP, rPI, rPJ, g1, g2, g3, g4, g5, g6, g7, g8, Nat.reduceEqDiff, Nat.reduceAdd, false_and, and_false, true_and, and_true, reduceIte, nZ0, nZ1, eτ91_83.1, eτ91_83.2, eτ91_86.1, eτ91_86.2, eτ91_87.1, eτ91_87.2, eτ91_89.1, eτ91_89.2, eτ91_115.1, eτ91_115.2, eτ91_118.1, eτ91_118.2, fun a k => (jτ91 a k).1, fun a k => (jτ91 a k).2, pτ91]
                          unfold w_X16_isShown_215
                          try simp only [forall_eq, rII, rIJ, rIP, rJJ, rJI, rJP, rPP, rPI, rPJ, g1, g2, g3, g4, g5, g6, g7, g8, Nat.reduceEqDiff, Nat.reduceAdd, false_and, and_false, true_and, and_true, reduceIte, nZ0, nZ1, eτ91_83.1, eτ91_83.2, eτ91_86.1, eτ91_86.2, eτ91_87.1, eτ91_87.2, eτ91_89.1, eτ91_89.2, eτ91_115.1, eτ91_115.2, eτ91_118.1, eτ91_118.2, fun a k => (jτ91 a k).1, fun a k => (jτ91 a k).2, pτ91]
                          try rw [if_neg (by decide)]
                          unfold w_X16_isShown_222
                          try simp only [forall_eq, rII, rIJ, rIP, rJJ, rJI, rJP, rPP, rPI, rPJ, g1, g2, g3, g4, g5, g6, g7, g8, Nat.reduceEqDiff, Nat.reduceAdd, false_and, and_false, true_and, and_true, reduceIte, nZ0, nZ1, eτ91_83.1, eτ91_83.2, eτ91_86.1, eτ91_86.2, eτ91_87.1, eτ91_87.2, eτ91_89.1, eτ91_89.2, eτ91_115.1, eτ91_115.2, eτ91_118.1, eτ91_118.2, fun a k => (jτ91 a k).1, fun a k => (jτ91 a k).2, pτ91]
                          refine ⟨by (first | omega | with_reducible assumption | (unfold rng; omega) | (unfold rng; (repeat' split) <;> omega) | decide), ?_⟩
                          unfold w_X16_isShown_230
                          try simp only [forall_eq, rII, rIJ, rIP, rJJ, rJI, rJP, rPP, rPI, rPJ, g1, g2, g3, g4, g5, g6, g7, g8, Nat.reduceEqDiff, Nat.reduceAdd, false_and, and_false, true_and, and_true, reduceIte, nZ0, nZ1, eτ91_83.1, eτ91_83.2, eτ91_86.1, eτ91_86.2, eτ91_87.1, eτ91_87.2, eτ91_89.1, eτ91_89.2, eτ91_115.1, eτ91_115.2, eτ91_118.1, eτ91_118.2, fun a k => (jτ91 a k).1, fun a k => (jτ91 a k).2, pτ91]
                          refine ⟨by (first | omega | with_reducible assumption | (unfold rng; omega) | (unfold rng; (repeat' split) <;> omega) | decide), ?_⟩
                          have q16 := rσ.1 86 (v6.toNat); simp only [rgT] at q16
                          refine ih91 _ _ _ ?_ ?_ ?_ ?_
                          · refine Rg.aI g ?_ (by simp only [rgT]; first | with_reducible exact nZ_rng _ | with_reducible exact nB_rng _ | with_reducible exact wr_rng _ | with_reducible exact i32any _ | (first | omega | with_reducible assumption | (unfold rng; omega) | (unfold rng; (repeat' split) <;> omega) | decide)); exact rτ91
                          · refine Fr.aI g ?_ (by decide); exact fτ91
                          · refine ⟨by omega, ?_⟩; first | omega | (rcases hls with q | q; exact Or.inl q.2.1; exact Or.inr q.2.1) | (rcases n64 with q | q; exact Or.inl q.2; exact Or.inr q.2.1)
                          · (try simp only [rII, rIJ, rIP, rJJ, rJI, rJP, rPP, rPI, rPJ, g1, g2, g3, g4, g5, g6, g7, g8, Nat.reduceEqDiff, Nat.reduceAdd, false_and, and_false, true_and, and_true, reduceIte, nZ0, nZ1, eτ91_83.1, eτ91_83.2, eτ91_86.1, eτ91_86.2, eτ91_87.1, eτ91_87.2, eτ91_89.1, eτ91_89.2, eτ91_115.1, eτ91_115.2, eτ91_118.1, eτ91_118.2, fun a k => (jτ91 a k).1, fun a k => (jτ91 a k).2, pτ91]) <;> (first | omega | with_reducible assumption | (unfold rng; omega) | (unfold rng; (repeat' split) <;> omega) | decide)
                        · rename_i hc118
                          skip
                          unfold w_X16_isShown_121
                          try simp only [forall_eq, rII, rIJ, rIP, rJJ, rJI, rJP, rPP, rPI, rPJ, g1, g2, g3, g4, g5, g6, g7, g8, Nat.reduceEqDiff, Nat.reduceAdd, false_and, and_false, true_and, and_true, reduceIte, nZ0, nZ1, eτ91_83.1, eτ91_83.2, eτ91_86.1, eτ91_86.2, eτ91_87.1, eτ91_87.2, eτ91_89.1, eτ91_89.2, eτ91_115.1, eτ91_115.2, eτ91_118.1, eτ91_118.2, fun a k => (jτ91 a k).1, fun a k => (jτ91 a k).2, pτ91]
                          refine ⟨by (first | omega | with_reducible assumption | (unfold rng; omega) | (unfold rng; (repeat' split) <;> omega) | decide), ?_⟩
                          refine ⟨by (first | omega | with_reducible assumption | (unfold rng; omega) | (unfold rng; (repeat' split) <;> omega) | decide), ?_⟩
                          refine ⟨by (first | omega | with_reducible assumption | (unfold rng; omega) | (unfold rng; (repeat' split) <;> omega) | decide), ?_⟩
                          have q17 := rτ91.1 120 (v8.toNat); simp only [rgT] at q17
                          split
                          · rename_i hc139
                            skip
                            unfold w_X16_isShown_195
                            try simp only [forall_eq, rII, rIJ, rIP, rJJ, rJI, rJP, rPP, rPI, rPJ, g1, g2, g3, g4, g5, g6, g7, g8, Nat.reduceEqDiff, Nat.reduceAdd, false_and, and_false, true_and, and_true, reduceIte, nZ0, nZ1, eτ91_83.1, eτ91_83.2, eτ91_86.1, eτ91_86.2, eτ91_87.1, eτ91_87.2, eτ91_89.1, eτ91_89.2, eτ91_115.1, eτ91_115.2, eτ91_118.1, eτ91_118.2, fun a k => (jτ91 a k).1, fun a k => (jτ91 a k).2, pτ91]
                            unfold w_X16_isShown_196
                            try simp only [forall_eq, rII, rIJ, rIP, rJJ, rJI, rJP, rPP, rPI, rPJ, g1, g2, g3, g4, g5, g6, g7, g8, Nat.reduceEqDiff, Nat.reduceAdd, false_and, and_false, true_and, and_true, reduceIte, nZ0, nZ1, eτ91_83.1, eτ91_83.2, eτ91_86.1, eτ91_86.2, eτ91_87.1, eτ91_87.2, eτ91_89.1, eτ91_89.2, eτ91_115.1, eτ91_115.2, eτ91_118.1, eτ91_118.2, fun a k => (jτ91 a k).1, fun a k => (jτ91 a k).2, pτ91]
                            refine ⟨by (first | omega | with_reducible assumption | (unfold rng; omega) | (unfold rng; (repeat' split) <;> omega) | decide), ?_⟩
                            refine ih108 _ _ ?_ ?_
                            · exact ⟨by omega, by omega⟩
                            · (try simp only [rII, rIJ, rIP, rJJ, rJI, rJP, rPP, rPI, rPJ, g1, g2, g3, g4, g5, g6, g7, g8, Nat.reduceEqDiff, Nat.reduceAdd, false_and, and_false, true_and, and_true, reduceIte, nZ0, nZ1, eτ91_83.1, eτ91_83.2, eτ91_86.1, eτ91_86.2, eτ91_87.1, eτ91_87.2, eτ91_89.1, eτ91_89.2, eτ91_115.1, eτ91_115.2, eτ91_118.1, eτ91_118.2, fun a k => (jτ91 a k).1, fun a k => (jτ91 a k).2, pτ91]) <;> (first | omega | with_reducible assumption | (unfold rng; omega) | (unfold rng; (repeat' split) <;> omega) | decide)
                          · rename_i hc139
                            skip
                            unfold w_X16_isShown_142
                            try simp only [forall_eq, rII, rIJ, rIP, rJJ, rJI, rJP, rPP, rPI, rPJ, g1, g2, g3, g4, g5, g6, g7, g8, Nat.reduceEqDiff, Nat.reduceAdd, false_and, and_false, true_and, and_true, reduceIte, nZ0, nZ1, eτ91_83.1, eτ91_83.2, eτ91_86.1, eτ91_86.2, eτ91_87.1, eτ91_87.2, eτ91_89.1, eτ91_89.2, eτ91_115.1, eτ91_115.2, eτ91_118.1, eτ91_118.2, fun a k => (jτ91 a k).1, fun a k => (jτ91 a k).2, pτ91]
                            refine ⟨by (first | omega | with_reducible assumption | (unfold rng; omega) | (unfold rng; (repeat' split) <;> omega) | decide), ?_⟩
                            refine ⟨by (first | omega | with_reducible assumption | (unfold rng; omega) | (unfold rng; (repeat' split) <;> omega) | decide), ?_⟩
                            refine ⟨by (first | omega | with_reducible assumption | (unfold rng; omega) | (unfold rng; (repeat' split) <;> omega) | decide), ?_⟩
                            refine ⟨by (first | omega | with_reducible assumption | (unfold rng; omega) | (unfold rng; (repeat' split) <;> omega) | decide), ?_⟩
                            refine ⟨ja, by exact hj, hja, ?_⟩
                            refine ⟨by (first | omega | with_reducible assumption | (unfold rng; omega) | (unfold rng; (repeat' split) <;> omega) | decide), ?_⟩
                            have q18 := rσ.2.2.1 ja 6 ((gI σ (jx ja 4) r18.toNat).toNat); simp only [rgJ] at q18
                            refine s_X16_order (b3 := (ra 84)) (n3 := 16000) (b7 := (ra 116)) (n7 := 32000) g rτ91 rfl (Or.inl ⟨84, rfl, by decide⟩) rfl (Or.inl ⟨116, rfl, by decide⟩) (by (try simp only [rII, rIJ, rIP, rJJ, rJI, rJP, rPP, rPI, rPJ, g1, g2, g3, g4, g5, g6, g7, g8, Nat.reduceEqDiff, Nat.reduceAdd, false_and, and_false, true_and, and_true, reduceIte, nZ0, nZ1, eτ91_83.1, eτ91_83.2, eτ91_86.1, eτ91_86.2, eτ91_87.1, eτ91_87.2, eτ91_89.1, eτ91_89.2, eτ91_115.1, eτ91_115.2, eτ91_118.1, eτ91_118.2, fun a k => (jτ91 a k).1, fun a k => (jτ91 a k).2, pτ91]) <;> (first | omega | with_reducible assumption | (unfold rng; omega) | (unfold rng; (repeat' split) <;> omega) | decide)) (by (try simp only [rII, rIJ, rIP, rJJ, rJI, rJP, rPP, rPI, rPJ, g1, g2, g3, g4, g5, g6, g7, g8, Nat.reduceEqDiff, Nat.reduceAdd, false_and, and_false, true_and, and_true, reduceIte, nZ0, nZ1, eτ91_83.1, eτ91_83.2, eτ91_86.1, eτ91_86.2, eτ91_87.1, eτ91_87.2, eτ91_89.1, eτ91_89.2, eτ91_115.1, eτ91_115.2, eτ91_118.1, eτ91_118.2, fun a k => (jτ91 a k).1, fun a k => (jτ91 a k).2, pτ91]) <;> (first | omega | with_reducible assumption | (unfold rng; omega) | (unfold rng; (repeat' split) <;> omega) | decide)) (by (try simp only [rII, rIJ, rIP, rJJ, rJI, rJP, rPP, rPI, rPJ, g1, g2, g3, g4, g5, g6, g7, g8, Nat.reduceEqDiff, Nat.reduceAdd, false_and, and_false, true_and, and_true, reduceIte, nZ0, nZ1, eτ91_83.1, eτ91_83.2, eτ91_86.1, eτ91_86.2, eτ91_87.1, eτ91_87.2, eτ91_89.1, eτ91_89.2, eτ91_115.1, eτ91_115.2, eτ91_118.1, eτ91_118.2, fun a k => (jτ91 a k).1, fun a k => (jτ91 a k).2, pτ91]) <;> (first | omega | with_reducible assumption | (unfold rng; omega) | (unfold rng; (repeat' split) <;> omega) | decide)) (by (try simp only [rII, rIJ, rIP, rJJ, rJI, rJP, rPP, rPI, rPJ, g1, g2, g3, g4, g5, g6, g7, g8, Nat.reduceEqDiff, Nat.reduceAdd, false_and, and_false, true_and, and_true, reduceIte, nZ0, nZ1, eτ91_83.1, eτ91_83.2, eτ91_86.1, eτ91_86.2, eτ91_87.1, eτ91_87.2, eτ91_89.1, eτ91_89.2, eτ91_115.1, eτ91_115.2, eτ91_118.1, eτ91_118.2, fun a k => (jτ91 a k).1, fun a k => (jτ91 a k).2, pτ91]) <;> (first | omega | with_reducible assumption | (unfold rng; omega) | (unfold rng; (repeat' split) <;> omega) | decide)) (by (try simp only [rII, rIJ, rIP, rJJ, rJI, rJP, rPP, rPI, rPJ, g1, g2, g3, g4, g5, g6, g7, g8, Nat.reduceEqDiff, Nat.reduceAdd, false_and, and_false, true_and, and_true, reduceIte, nZ0, nZ1, eτ91_83.1, eτ91_83.2, eτ91_86.1, eτ91_86.2, eτ91_87.1, eτ91_87.2, eτ91_89.1, eτ91_89.2, eτ91_115.1, eτ91_115.2, eτ91_118.1, eτ91_118.2, fun a k => (jτ91 a k).1, fun a k => (jτ91 a k).2, pτ91]) <;> (first | omega | with_reducible assumption | (unfold rng; omega) | (unfold rng; (repeat' split) <;> omega) | decide)) (fun r30 p19 => ?_)
                            try simp only [forall_eq, rII, rIJ, rIP, rJJ, rJI, rJP, rPP, rPI, rPJ, g1, g2, g3, g4, g5, g6, g7, g8, Nat.reduceEqDiff, Nat.reduceAdd, false_and, and_false, true_and, and_true, reduceIte, nZ0, nZ1, eτ91_83.1, eτ91_83.2, eτ91_86.1, eτ91_86.2, eτ91_87.1, eτ91_87.2, eτ91_89.1, eτ91_89.2, eτ91_115.1, eτ91_115.2, eτ91_118.1, eτ91_118.2, fun a k => (jτ91 a k).1, fun a k => (jτ91 a k).2, pτ91]
                            split
                            · rename_i hc187
                              skip
                              unfold w_X16_isShown_195
                              try simp only [forall_eq, rII, rIJ, rIP, rJJ, rJI, rJP, rPP, rPI, rPJ, g1, g2, g3, g4, g5, g6, g7, g8, Nat.reduceEqDiff, Nat.reduceAdd, false_and, and_false, true_and, and_true, reduceIte, nZ0, nZ1, eτ91_83.1, eτ91_83.2, eτ91_86.1, eτ91_86.2, eτ91_87.1, eτ91_87.2, eτ91_89.1, eτ91_89.2, eτ91_115.1, eτ91_115.2, eτ91_118.1, eτ91_118.2, fun a k => (jτ91 a k).1, fun a k => (jτ91 a k).2, pτ91]
                              unfold w_X16_isShown_196
                              try simp only [forall_eq, rII, rIJ, rIP, rJJ, rJI, rJP, rPP, rPI, rPJ, g1, g2, g3, g4, g5, g6, g7, g8, Nat.reduceEqDiff, Nat.reduceAdd, false_and, and_false, true_and, and_true, reduceIte, nZ0, nZ1, eτ91_83.1, eτ91_83.2, eτ91_86.1, eτ91_86.2, eτ91_87.1, eτ91_87.2, eτ91_89.1, eτ91_89.2, eτ91_115.1, eτ91_115.2, eτ91_118.1, eτ91_118.2, fun a k => (jτ91 a k).1, fun a k => (jτ91 a k).2, pτ91]
                              refine ⟨by (first | omega | with_reducible assumption | (unfold rng; omega) | (unfold rng; (repeat' split) <;> omega) | decide), ?_⟩
                              refine ih108 _ _ ?_ ?_
                              · exact ⟨by omega, by omega⟩
                              · (try simp only [rII, rIJ, rIP, rJJ, rJI, rJP, rPP, rPI, rPJ, g1, g2, g3, g4, g5, g6, g7, g8, Nat.reduceEqDiff, Nat.reduceAdd, false_and, and_false, true_and, and_true, reduceIte, nZ0, nZ1, eτ91_83.1, eτ91_83.2, eτ91_86.1, eτ91_86.2, eτ91_87.1, eτ91_87.2, eτ91_89.1, eτ91_89.2, eτ91_115.1, eτ91_115.2, eτ91_118.1, eτ91_118.2, fun a k => (jτ91 a k).1, fun a k => (jτ91 a k).2, pτ91]) <;> (first | omega | with_reducible assumption | (unfold rng; omega) | (unfold rng; (repeat' split) <;> omega) | decide)
                            · rename_i hc187
                              skip
                              unfold w_X16_isShown_190
                              try simp only [forall_eq, rII, rIJ, rIP, rJJ, rJI, rJP, rPP, rPI, rPJ, g1, g2, g3, g4, g5, g6, g7, g8, Nat.reduceEqDiff, Nat.reduceAdd, false_and, and_false, true_and, and_true, reduceIte, nZ0, nZ1, eτ91_83.1, eτ91_83.2, eτ91_86.1, eτ91_86.2, eτ91_87.1, eτ91_87.2, eτ91_89.1, eτ91_89.2, eτ91_115.1, eτ91_115.2, eτ91_118.1, eτ91_118.2, fun a k => (jτ91 a k).1, fun a k => (jτ91 a k).2, pτ91]
                              unfold w_X16_isShown_196
                              try simp only [forall_eq, rII, rIJ, rIP, rJJ, rJI, rJP, rPP, rPI, rPJ, g1, g2, g3, g4, g5, g6, g7, g8, Nat.reduceEqDiff, Nat.reduceAdd, false_and, and_false, true_and, and_true, reduceIte, nZ0, nZ1, eτ91_83.1, eτ91_83.2, eτ91_86.1, eτ91_86.2, eτ91_87.1, eτ91_87.2, eτ91_89.1, eτ91_89.2, eτ91_115.1, eτ91_115.2, eτ91_118.1, eτ91_118.2, fun a k => (jτ91 a k).1, fun a k => (jτ91 a k).2, pτ91]
                              refine ⟨by (first | omega | with_reducible assumption | (unfold rng; omega) | (unfold rng; (repeat' split) <;> omega) | decide), ?_⟩
                              refine ih108 _ _ ?_ ?_
                              · exact ⟨by omega, by omega⟩
                              · (try simp only [rII, rIJ, rIP, rJJ, rJI, rJP, rPP, rPI, rPJ, g1, g2, g3, g4, g5, g6, g7, g8, Nat.reduceEqDiff, Nat.reduceAdd, false_and, and_false, true_and, and_true, reduceIte, nZ0, nZ1, eτ91_83.1, eτ91_83.2, eτ91_86.1, eτ91_86.2, eτ91_87.1, eτ91_87.2, eτ91_89.1, eτ91_89.2, eτ91_115.1, eτ91_115.2, eτ91_118.1, eτ91_118.2, fun a k => (jτ91 a k).1, fun a k => (jτ91 a k).2, pτ91]) <;> (first | omega | with_reducible assumption | (unfold rng; omega) | (unfold rng; (repeat' split) <;> omega) | decide)
                  refine ⟨_, L108 _ _ _ ?_ (Nat.lt_succ_self _)⟩
                  · exact ⟨by omega, by omega⟩
          refine ⟨_, L91 _ _ _ _ ?_ ?_ ?_ (Nat.lt_succ_self _)⟩
          · exact rτ58
          · exact fτ58
          · refine ⟨by omega, ?_⟩; first | omega | (rcases hls with q | q; exact Or.inl q.2.1; exact Or.inr q.2.1) | (rcases n64 with q | q; exact Or.inl q.2; exact Or.inr q.2.1)
        · rename_i hc62
          skip
          unfold w_X16_isShown_65
          try simp only [forall_eq, rII, rIJ, rIP, rJJ, rJI, rJP, rPP, rPI, rPJ, g1, g2, g3, g4, g5, g6, g7, g8, Nat.reduceEqDiff, Nat.reduceAdd, false_and, and_false, true_and, and_true, reduceIte, nZ0, nZ1, eτ58_83.1, eτ58_83.2, eτ58_86.1, eτ58_86.2, eτ58_87.1, eτ58_87.2, eτ58_89.1, eτ58_89.2, eτ58_115.1, eτ58_115.2, eτ58_118.1, eτ58_118.2, fun a k => (jτ58 a k).1, fun a k => (jτ58 a k).2, pτ58]
          refine ⟨by (first | omega | with_reducible assumption | (unfold rng; omega) | (unfold rng; (repeat' split) <;> omega) | decide), ?_⟩
          refine ⟨by (first | omega | with_reducible assumption | (unfold rng; omega) | (unfold rng; (repeat' split) <;> omega) | decide), ?_⟩
          refine ih58 _ _ ?_ ?_ ?_ ?_
          · refine Rg.aI g ?_ (by simp only [rgT]; first | with_reducible exact nZ_rng _ | with_reducible exact nB_rng _ | with_reducible exact wr_rng _ | with_reducible exact i32any _ | (first | omega | with_reducible assumption | (unfold rng; omega) | (unfold rng; (repeat' split) <;> omega) | decide)); exact rτ58
          · refine Fr.aI g ?_ (by decide); exact fτ58
          · (try simp only [rII, rIJ, rIP, rJJ, rJI, rJP, rPP, rPI, rPJ, g1, g2, g3, g4, g5, g6, g7, g8, Nat.reduceEqDiff, Nat.reduceAdd, false_and, and_false, true_and, and_true, reduceIte, nZ0, nZ1, eτ58_83.1, eτ58_83.2, eτ58_86.1, eτ58_86.2, eτ58_87.1, eτ58_87.2, eτ58_89.1, eτ58_89.2, eτ58_115.1, eτ58_115.2, eτ58_118.1, eτ58_118.2, fun a k => (jτ58 a k).1, fun a k => (jτ58 a k).2, pτ58]) <;> (first | omega | with_reducible assumption | (unfold rng; omega) | (unfold rng; (repeat' split) <;> omega) | decide)
          · (try simp only [rII, rIJ, rIP, rJJ, rJI, rJP, rPP, rPI, rPJ, g1, g2, g3, g4, g5, g6, g7, g8, Nat.reduceEqDiff, Nat.reduceAdd, false_and, and_false, true_and, and_true, reduceIte, nZ0, nZ1, eτ58_83.1, eτ58_83.2, eτ58_86.1, eτ58_86.2, eτ58_87.1, eτ58_87.2, eτ58_89.1, eτ58_89.2, eτ58_115.1, eτ58_115.2, eτ58_118.1, eτ58_118.2, fun a k => (jτ58 a k).1, fun a k => (jτ58 a k).2, pτ58]) <;> (first | omega | with_reducible assumption | (unfold rng; omega) | (unfold rng; (repeat' split) <;> omega) | decide)
    refine ⟨_, L58 _ _ _ ?_ ?_ ?_ (Nat.lt_succ_self _)⟩
    · exact rσ
    · exact fσ
    · (try simp only [rII, rIJ, rIP, rJJ, rJI, rJP, rPP, rPI, rPJ, g1, g2, g3, g4, g5, g6, g7, g8, Nat.reduceEqDiff, Nat.reduceAdd, false_and, and_false, true_and, and_true, reduceIte, nZ0, nZ1]) <;> (first | omega | with_reducible assumption | (unfold rng; omega) | (unfold rng; (repeat' split) <;> omega) | decide)
set_option maxHeartbeats 4000000 in
theorem s_X16_isRight {ra : Nat → Nat} {jx : Nat → Nat → Nat} {rm : Nat} {ja : Nat} (g : Geo ra jx rm) {σ : Sg} (rσ : Rg ra jx rm σ) (hj : gP σ rm 17 = some ja) (hja : ja = ra 15 ∨ ja = ra 16) (hjo : JobOK jx ja σ) (hhe : HeE ra rm σ) {Q : Sg → Int → Prop} {X : Sg → String → Prop} (hQ : ∀ (σ' : Sg) (r : Int), Rg ra jx rm σ' → Fr ra jx rm [20, 81, 82, 115, 116, 118, 119, 120, 121, 122] [21, 117] σ σ' → (r = 0 ∨ r = 1) → Q σ' r) : wp_X16_isRight ra jx rm σ Q X := by
  obtain ⟨g1, g2, g3, g4, g5, g6, g7, g8⟩ := id g
  have fσ : Fr ra jx rm [20, 81, 82, 115, 116, 118, 119, 120, 121, 122] [21, 117] σ σ := Fr.rf
  have hco := hjo.1
  have hjo2 := hjo.2.1
  have hxT : ∀ (σx : Sg) (E : String), Rg ra jx rm σx → Fr ra jx rm [20, 81, 82, 115, 116, 118, 119, 120, 121, 122] [21, 117] σ σx → E = "StreamHouseModel$Broken" → wx_X16_isRight_54 ra jx rm Q X σx E := by
    intro σx E rx fx px
    refine ⟨px, fun u0 => ?_⟩
    unfold w_X16_isRight_54
    exact hQ _ _ rx fx (Or.inl rfl)
  unfold wp_X16_isRight
  unfold w_X16_isRight_0
  try simp only [forall_eq, rII, rIJ, rIP, rJJ, rJI, rJP, rPP, rPI, rPJ, g1, g2, g3, g4, g5, g6, g7, g8, Nat.reduceEqDiff, Nat.reduceAdd, false_and, and_false, true_and, and_true, reduceIte, nZ0, nZ1]
  unfold w_X16_isRight_5
  try simp only [forall_eq, rII, rIJ, rIP, rJJ, rJI, rJP, rPP, rPI, rPJ, g1, g2, g3, g4, g5, g6, g7, g8, Nat.reduceEqDiff, Nat.reduceAdd, false_and, and_false, true_and, and_true, reduceIte, nZ0, nZ1]
  have L7 : ∀ (fu7 : Nat) (τ7 : Sg) (v1 : Int), Rg ra jx rm τ7 → Fr ra jx rm [20, 81, 82, 115, 116, 118, 119, 120, 121, 122] [21, 117] σ τ7 → ((0 ≤ v1 ∧ v1 ≤ gI σ ja 0) ∧ PtI ra rm τ7 (gI τ7 rm 117) (1000000 + 1000 * v1) ∧ (∀ j : Int, 0 ≤ j → j < v1 → gI τ7 (ra 118) (j + 1).toNat ≤ gI τ7 rm 117)) → ((gI σ ja 0 - v1).toNat) < fu7 → wl_X16_isRight_7 ra jx rm Q X fu7 τ7 v1 := by
    intro fu7
    induction fu7 with
    | zero => intro τ7 _ _ _ _ h9; omega
    | succ fu7 ih7 =>
      intro τ7 v1 rτ7 fτ7 hi7 hm7
      unfold wl_X16_isRight_7
      have jτ7 := fτ7.2.2.1
      have pτ7 := fτ7.2.2.2
      have obτ7 := Fr.ob fτ7 hja (by decide)
      unfold w_X16_isRight_7
      try simp only [forall_eq, rII, rIJ, rIP, rJJ, rJI, rJP, rPP, rPI, rPJ, g1, g2, g3, g4, g5, g6, g7, g8, Nat.reduceEqDiff, Nat.reduceAdd, false_and, and_false, true_and, and_true, reduceIte, nZ0, nZ1, fun a k => (jτ7 a k).1, fun a k => (jτ7 a k).2, pτ7, obτ7]
      obtain ⟨⟨k1, k2⟩, pt9, f9⟩ := hi7
      have o7 := congrFun obτ7 0
      have b117 := rτ7.2.1 117; simp only [rgS] at b117
      refine ⟨ja, by exact hj, hja, ?_⟩
      split
      · rename_i hc15
        skip
        unfold w_X16_isRight_51
        try simp only [forall_eq, rII, rIJ, rIP, rJJ, rJI, rJP, rPP, rPI, rPJ, g1, g2, g3, g4, g5, g6, g7, g8, Nat.reduceEqDiff, Nat.reduceAdd, false_and, and_false, true_and, and_true, reduceIte, nZ0, nZ1, fun a k => (jτ7 a k).1, fun a k => (jτ7 a k).2, pτ7, obτ7]
        unfold w_X16_isRight_57
        try simp only [forall_eq, rII, rIJ, rIP, rJJ, rJI, rJP, rPP, rPI, rPJ, g1, g2, g3, g4, g5, g6, g7, g8, Nat.reduceEqDiff, Nat.reduceAdd, false_and, and_false, true_and, and_true, reduceIte, nZ0, nZ1, fun a k => (jτ7 a k).1, fun a k => (jτ7 a k).2, pτ7, obτ7]
        have L61 : ∀ (fu61 : Nat) (τ61 : Sg) (v1 : Int) (v2 : Int), Rg ra jx rm τ61 → Fr ra jx rm [20, 81, 82, 115, 116, 118, 119, 120, 121, 122] [21, 117] σ τ61 → ((v1 = 0 ∨ v1 = 1) ∧ 0 ≤ v2 ∧ v2 ≤ gI σ ja 1) → ((gI σ ja 1 - v2).toNat) < fu61 → wl_X16_isRight_61 ra jx rm Q X fu61 τ61 v1 v2 := by
          intro fu61
          induction fu61 with
          | zero => intro τ61 _ _ _ _ _ h9; omega
          | succ fu61 ih61 =>
            intro τ61 v1 v2 rτ61 fτ61 hi61 hm61
            unfold wl_X16_isRight_61
            have jτ61 := fτ61.2.2.1
            have pτ61 := fτ61.2.2.2
            have obτ61 := Fr.ob fτ61 hja (by decide)
            unfold w_X16_isRight_61
            try simp only [forall_eq, rII, rIJ, rIP, rJJ, rJI, rJP, rPP, rPI, rPJ, g1, g2, g3, g4, g5, g6, g7, g8, Nat.reduceEqDiff, Nat.reduceAdd, false_and, and_false, true_and, and_true, reduceIte, nZ0, nZ1, fun a k => (jτ61 a k).1, fun a k => (jτ61 a k).2, pτ61, obτ61]
            have o61 := congrFun obτ61 1
            refine ⟨ja, by exact hj, hja, ?_⟩
            split
            · rename_i hc69
              skip
              unfold w_X16_isRight_88
              try simp only [forall_eq, rII, rIJ, rIP, rJJ, rJI, rJP, rPP, rPI, rPJ, g1, g2, g3, g4, g5, g6, g7, g8, Nat.reduceEqDiff, Nat.reduceAdd, false_and, and_false, true_and, and_true, reduceIte, nZ0, nZ1, fun a k => (jτ61 a k).1, fun a k => (jτ61 a k).2, pτ61, obτ61]
              refine ⟨by (first | omega | with_reducible assumption | (unfold rng; omega) | (unfold rng; (repeat' split) <;> omega) | decide), ?_⟩
              refine hQ _ _ ?_ ?_ ?_
              · exact rτ61
              · exact fτ61
              · (try simp only [rII, rIJ, rIP, rJJ, rJI, rJP, rPP, rPI, rPJ, g1, g2, g3, g4, g5, g6, g7, g8, Nat.reduceEqDiff, Nat.reduceAdd, false_and, and_false, true_and, and_true, reduceIte, nZ0, nZ1, fun a k => (jτ61 a k).1, fun a k => (jτ61 a k).2, pτ61, obτ61]) <;> (first | omega | with_reducible assumption | (unfold rng; omega) | (unfold rng; (repeat' split) <;> omega) | decide)
            · rename_i hc69
              skip
              unfold w_X16_isRight_72
              try simp only [forall_eq, rII, rIJ, rIP, rJJ, rJI, rJP, rPP, rPI, rPJ, g1, g2, g3, g4, g5, g6, g7, g8, Nat.reduceEqDiff, Nat.reduceAdd, false_and, and_false, true_and, and_true, reduceIte, nZ0, nZ1, fun a k => (jτ61 a k).1, fun a k => (jτ61 a k).2, pτ61, obτ61]
              split
              · rename_i hc73
                skip
                unfold w_X16_isRight_88
                try simp only [forall_eq, rII, rIJ, rIP, rJJ, rJI, rJP, rPP, rPI, rPJ, g1, g2, g3, g4, g5, g6, g7, g8, Nat.reduceEqDiff, Nat.reduceAdd, false_and, and_false, true_and, and_true, reduceIte, nZ0, nZ1, fun a k => (jτ61 a k).1, fun a k => (jτ61 a k).2, pτ61, obτ61]
                refine ⟨by (first | omega | with_reducible assumption | (unfold rng; omega) | (unfold rng; (repeat' split) <;> omega) | decide), ?_⟩
                refine hQ _ _ ?_ ?_ ?_
                · exact rτ61
                · exact fτ61
                · (try simp only [rII, rIJ, rIP, rJJ, rJI, rJP, rPP, rPI, rPJ, g1, g2, g3, g4, g5, g6, g7, g8, Nat.reduceEqDiff, Nat.reduceAdd, false_and, and_false, true_and, and_true, reduceIte, nZ0, nZ1, fun a k => (jτ61 a k).1, fun a k => (jτ61 a k).2, pτ61, obτ61]) <;> (first | omega | with_reducible assumption | (unfold rng; omega) | (unfold rng; (repeat' split) <;> omega) | decide)
              · rename_i hc73
                skip
                unfold w_X16_isRight_76
                try simp only [forall_eq, rII, rIJ, rIP, rJJ, rJI, rJP, rPP, rPI, rPJ, g1, g2, g3, g4, g5, g6, g7, g8, Nat.reduceEqDiff, Nat.reduceAdd, false_and, and_false, true_and, and_true, reduceIte, nZ0, nZ1, fun a k => (jτ61 a k).1, fun a k => (jτ61 a k).2, pτ61, obτ61]
                refine s_X16_isShown g rτ61 (by first | exact hj | (rw [fτ61.2.2.2]; exact hj)) hja (JobOK.fr hjo hja fτ61 (by decide)) (by (try simp only [rII, rIJ, rIP, rJJ, rJI, rJP, rPP, rPI, rPJ, g1, g2, g3, g4, g5, g6, g7, g8, Nat.reduceEqDiff, Nat.reduceAdd, false_and, and_false, true_and, and_true, reduceIte, nZ0, nZ1, fun a k => (jτ61 a k).1, fun a k => (jτ61 a k).2, pτ61, obτ61]) <;> (first | omega | with_reducible assumption | (unfold rng; omega) | (unfold rng; (repeat' split) <;> omega) | decide)) (HeE.fr hhe fτ61 (by decide) (by decide)) (fun σ20 r21 rσ20 fc p3 => ?_)
                have fσ20 : Fr ra jx rm [20, 81, 82, 115, 116, 118, 119, 120, 121, 122] [21, 117] σ σ20 := Fr.tr fτ61 (Fr.mor (fc) (by decide) (by decide))
                have jσ20 := fσ20.2.2.1
                have pσ20 := fσ20.2.2.2
                have obσ20 := Fr.ob fσ20 hja (by decide)
                try simp only [forall_eq, rII, rIJ, rIP, rJJ, rJI, rJP, rPP, rPI, rPJ, g1, g2, g3, g4, g5, g6, g7, g8, Nat.reduceEqDiff, Nat.reduceAdd, false_and, and_false, true_and, and_true, reduceIte, nZ0, nZ1, fun a k => (jσ20 a k).1, fun a k => (jσ20 a k).2, pσ20, obσ20]
                refine ⟨by (first | omega | with_reducible assumption | (unfold rng; omega) | (unfold rng; (repeat' split) <;> omega) | decide), ?_⟩
                refine ih61 _ _ _ ?_ ?_ ?_ ?_
                · exact rσ20
                · exact fσ20
                · exact ⟨by omega, by omega, by omega⟩
                · (try simp only [rII, rIJ, rIP, rJJ, rJI, rJP, rPP, rPI, rPJ, g1, g2, g3, g4, g5, g6, g7, g8, Nat.reduceEqDiff, Nat.reduceAdd, false_and, and_false, true_and, and_true, reduceIte, nZ0, nZ1, fun a k => (jσ20 a k).1, fun a k => (jσ20 a k).2, pσ20, obσ20]) <;> (first | omega | with_reducible assumption | (unfold rng; omega) | (unfold rng; (repeat' split) <;> omega) | decide)
        refine ⟨_, L61 _ _ _ _ ?_ ?_ ?_ (Nat.lt_succ_self _)⟩
        · exact rτ7
        · exact fτ7
        · exact ⟨by omega, by omega, by omega⟩
      · rename_i hc15
        skip
        unfold w_X16_isRight_18
        try simp only [forall_eq, rII, rIJ, rIP, rJJ, rJI, rJP, rPP, rPI, rPJ, g1, g2, g3, g4, g5, g6, g7, g8, Nat.reduceEqDiff, Nat.reduceAdd, false_and, and_false, true_and, and_true, reduceIte, nZ0, nZ1, fun a k => (jτ7 a k).1, fun a k => (jτ7 a k).2, pτ7, obτ7]
        refine ⟨by (first | omega | with_reducible assumption | (unfold rng; omega) | (unfold rng; (repeat' split) <;> omega) | decide), ?_⟩
        have q4 := rτ7.2.1 117; simp only [rgS] at q4
        refine s_X16_passOver (b := gI τ7 rm 117) (A := 1000000 + 1000 * v1) g (by refine Rg.aI g ?_ (by simp only [rgT]; first | with_reducible exact nZ_rng _ | with_reducible exact nB_rng _ | with_reducible exact wr_rng _ | with_reducible exact i32any _ | (first | omega | with_reducible assumption | (unfold rng; omega) | (unfold rng; (repeat' split) <;> omega) | decide)); exact rτ7) (by first | exact hj | (rw [fτ7.2.2.2]; exact hj)) hja (PtI.fr (jx := jx) (K := [118]) (S := []) pt9 (by repeat (first | exact Fr.rf | assumption | refine Fr.aJ g ?_ (by decide) | refine Fr.aI g ?_ (by decide) | refine Fr.sI g ?_ (by decide) | refine Fr.sJ g ?_ (by decide))) (by decide) (by decide)) (by omega) (JobOK.fr (JobOK.fr hjo hja fτ7 (by decide)) hja (show Fr ra jx rm [118] [] τ7 _ from Fr.aI g Fr.rf (by decide)) (by decide)) (by rw [show gI _ ja 0 = gI σ ja 0 from congrFun (Fr.ob (show Fr ra jx rm [20, 81, 82, 115, 116, 118, 119, 120, 121, 122] [21, 117] σ _ from Fr.aI g fτ7 (by decide)) hja (by decide)) 0]; omega) (by (try simp only [rII, rIJ, rIP, rJJ, rJI, rJP, rPP, rPI, rPJ, g1, g2, g3, g4, g5, g6, g7, g8, Nat.reduceEqDiff, Nat.reduceAdd, false_and, and_false, true_and, and_true, reduceIte, nZ0, nZ1, fun a k => (jτ7 a k).1, fun a k => (jτ7 a k).2, pτ7, obτ7])) (by intro j a b; have w6 := f9 j a b; (try simp only [rII, rIJ, rIP, rJJ, rJI, rJP, rPP, rPI, rPJ, g1, g2, g3, g4, g5, g6, g7, g8, Nat.reduceEqDiff, Nat.reduceAdd, false_and, and_false, true_and, and_true, reduceIte, nZ0, nZ1, fun a k => (jτ7 a k).1, fun a k => (jτ7 a k).2, pτ7, obτ7]) <;> (split <;> omega)) (fun σ23 _ rσ23 fc p5 => ?_) (fun σx E rx fx px => hxT _ _ rx (Fr.tr (by refine Fr.aI g ?_ (by decide); exact fτ7) (Fr.mor (fx) (by decide) (by decide))) px)
        have fσ23 : Fr ra jx rm [20, 81, 82, 115, 116, 118, 119, 120, 121, 122] [21, 117] σ σ23 := Fr.tr (by refine Fr.aI g ?_ (by decide); exact fτ7) (Fr.mor (fc) (by decide) (by decide))
        have pt9 := p5
        have e118 : ∀ j : Int, 0 ≤ j → gI σ23 (ra 118) (j + 1).toNat = if (j + 1).toNat = v1.toNat then gI τ7 rm 117 else gI τ7 (ra 118) (j + 1).toNat := fun j _ => by rw [(fc.1 118 (by decide)).1]; simp only [rII, rIJ, rIP, rJJ, rJI, rJP, rPP, rPI, rPJ, g1, g2, g3, g4, g5, g6, g7, g8, Nat.reduceEqDiff, Nat.reduceAdd, false_and, and_false, true_and, and_true, reduceIte, nZ0, nZ1, fun a k => (jτ7 a k).1, fun a k => (jτ7 a k).2, pτ7, obτ7]
        have jσ23 := fσ23.2.2.1
        have pσ23 := fσ23.2.2.2
        have obσ23 := Fr.ob fσ23 hja (by decide)
        try simp only [forall_eq, rII, rIJ, rIP, rJJ, rJI, rJP, rPP, rPI, rPJ, g1, g2, g3, g4, g5, g6, g7, g8, Nat.reduceEqDiff, Nat.reduceAdd, false_and, and_false, true_and, and_true, reduceIte, nZ0, nZ1, fun a k => (jσ23 a k).1, fun a k => (jσ23 a k).2, pσ23, obσ23]
        refine ⟨by (first | omega | with_reducible assumption | (unfold rng; omega) | (unfold rng; (repeat' split) <;> omega) | decide), ?_⟩
        refine ⟨by (first | omega | with_reducible assumption | (unfold rng; omega) | (unfold rng; (repeat' split) <;> omega) | decide), ?_⟩
        have q6 := rσ23.2.1 117; simp only [rgS] at q6
        refine ⟨by (first | omega | with_reducible assumption | (unfold rng; omega) | (unfold rng; (repeat' split) <;> omega) | decide), ?_⟩
        refine ih7 _ _ ?_ ?_ ?_ ?_
        · refine Rg.aI g ?_ (by simp only [rgT]; first | with_reducible exact nZ_rng _ | with_reducible exact nB_rng _ | with_reducible exact wr_rng _ | with_reducible exact i32any _ | (first | omega | with_reducible assumption | (unfold rng; omega) | (unfold rng; (repeat' split) <;> omega) | decide)); exact rσ23
        · refine Fr.aI g ?_ (by decide); exact fσ23
        · first | (refine ⟨⟨by omega, by omega⟩, ?_, fun j a b => absurd b (by omega)⟩; unfold PtI; simp only [rII, rIJ, rIP, rJJ, rJI, rJP, rPP, rPI, rPJ, g1, g2, g3, g4, g5, g6, g7, g8, Nat.reduceEqDiff, Nat.reduceAdd, false_and, and_false, true_and, and_true, reduceIte, nZ0, nZ1, fun a k => (jσ23 a k).1, fun a k => (jσ23 a k).2, pσ23, obσ23]; exact ⟨by omega, by omega, fun i hi => absurd hi (by omega), fun i hi => absurd hi (by omega)⟩) | (refine ⟨⟨by omega, by omega⟩, ?_, fun j a b => ?_⟩; ((try simp only [rII, rIJ, rIP, rJJ, rJI, rJP, rPP, rPI, rPJ, g1, g2, g3, g4, g5, g6, g7, g8, Nat.reduceEqDiff, Nat.reduceAdd, false_and, and_false, true_and, and_true, reduceIte, nZ0, nZ1, fun a k => (jσ23 a k).1, fun a k => (jσ23 a k).2, pσ23, obσ23]); rw [show 1000000 + 1000 * (v1 + 1) = 1000000 + 1000 * v1 + 1000 by omega]; exact PtI.fr (jx := jx) (K := [118]) (S := []) (PtI.up pt9) (by repeat (first | exact Fr.rf | assumption | refine Fr.aJ g ?_ (by decide) | refine Fr.aI g ?_ (by decide) | refine Fr.sI g ?_ (by decide) | refine Fr.sJ g ?_ (by decide))) (by decide) (by decide)); (have w8 := pt9.2.1; have w7 := e118 j a; have w6 := f9 j a; (try simp only [rII, rIJ, rIP, rJJ, rJI, rJP, rPP, rPI, rPJ, g1, g2, g3, g4, g5, g6, g7, g8, Nat.reduceEqDiff, Nat.reduceAdd, false_and, and_false, true_and, and_true, reduceIte, nZ0, nZ1, fun a k => (jσ23 a k).1, fun a k => (jσ23 a k).2, pσ23, obσ23]) <;> (by_cases z : j = v1; (rw [if_pos (by omega)]; exact Int.le_refl _); (rw [if_neg (by omega), w7]; (split <;> omega)))))
        · (try simp only [rII, rIJ, rIP, rJJ, rJI, rJP, rPP, rPI, rPJ, g1, g2, g3, g4, g5, g6, g7, g8, Nat.reduceEqDiff, Nat.reduceAdd, false_and, and_false, true_and, and_true, reduceIte, nZ0, nZ1, fun a k => (jσ23 a k).1, fun a k => (jσ23 a k).2, pσ23, obσ23]) <;> (first | omega | with_reducible assumption | (unfold rng; omega) | (unfold rng; (repeat' split) <;> omega) | decide)
  refine ⟨_, L7 _ _ _ ?_ ?_ ?_ (Nat.lt_succ_self _)⟩
  · refine Rg.sI g ?_ (by simp only [rgS]; first | with_reducible exact nZ_rng _ | with_reducible exact nB_rng _ | with_reducible exact wr_rng _ | with_reducible exact i32any _ | (first | omega | with_reducible assumption | (unfold rng; omega) | (unfold rng; (repeat' split) <;> omega) | decide)); exact rσ
  · refine Fr.sI g ?_ (by decide); exact fσ
  · first | (refine ⟨⟨by omega, by omega⟩, ?_, fun j a b => absurd b (by omega)⟩; unfold PtI; simp only [rII, rIJ, rIP, rJJ, rJI, rJP, rPP, rPI, rPJ, g1, g2, g3, g4, g5, g6, g7, g8, Nat.reduceEqDiff, Nat.reduceAdd, false_and, and_false, true_and, and_true, reduceIte, nZ0, nZ1]; exact ⟨by omega, by omega, fun i hi => absurd hi (by omega), fun i hi => absurd hi (by omega)⟩) | (refine ⟨⟨by omega, by omega⟩, ?_, fun j a b => ?_⟩; ((try simp only [rII, rIJ, rIP, rJJ, rJI, rJP, rPP, rPI, rPJ, g1, g2, g3, g4, g5, g6, g7, g8, Nat.reduceEqDiff, Nat.reduceAdd, false_and, and_false, true_and, and_true, reduceIte, nZ0, nZ1]); rw [show 1000000 + 1000 * (v1 + 1) = 1000000 + 1000 * v1 + 1000 by omega]; exact PtI.fr (jx := jx) (K := [118]) (S := []) (PtI.up pt9) (by repeat (first | exact Fr.rf | assumption | refine Fr.aJ g ?_ (by decide) | refine Fr.aI g ?_ (by decide) | refine Fr.sI g ?_ (by decide) | refine Fr.sJ g ?_ (by decide))) (by decide) (by decide)); (have w8 := pt9.2.1; have w7 := e118 j a; have w6 := f9 j a; (try simp only [rII, rIJ, rIP, rJJ, rJI, rJP, rPP, rPI, rPJ, g1, g2, g3, g4, g5, g6, g7, g8, Nat.reduceEqDiff, Nat.reduceAdd, false_and, and_false, true_and, and_true, reduceIte, nZ0, nZ1]) <;> (by_cases z : j = v1; (rw [if_pos (by omega)]; exact Int.le_refl _); (rw [if_neg (by omega), w7]; (split <;> omega)))))
set_option maxHeartbeats 2000000 in
theorem s_X16_onePass {ra : Nat → Nat} {jx : Nat → Nat → Nat} {rm : Nat} {ja : Nat} (g : Geo ra jx rm) {σ : Sg} (rσ : Rg ra jx rm σ) (hj : gP σ rm 17 = none ∨ gP σ rm 17 = some ja) (hja : ja = ra 15 ∨ ja = ra 16) (hjo : gP σ rm 17 = some ja → JobOK jx ja σ) (hhe : HeE ra rm σ) {Q : Sg → Int → Prop} {X : Sg → String → Prop} (hQ : ∀ (σ' : Sg) (r : Int), Rg ra jx rm σ' → Fr ra jx rm [20, 81, 82, 115, 116, 118, 119, 120, 121, 122] [0, 21, 117] σ σ' → (True) → Q σ' r) : wp_X16_onePass ra jx rm σ Q X := by
  obtain ⟨g1, g2, g3, g4, g5, g6, g7, g8⟩ := id g
  have fσ : Fr ra jx rm [20, 81, 82, 115, 116, 118, 119, 120, 121, 122] [0, 21, 117] σ σ := Fr.rf
  unfold wp_X16_onePass
  unfold w_X16_onePass_0
  try simp only [forall_eq, rII, rIJ, rIP, rJJ, rJI, rJP, rPP, rPI, rPJ, g1, g2, g3, g4, g5, g6, g7, g8, Nat.reduceEqDiff, Nat.reduceAdd, false_and, and_false, true_and, and_true, reduceIte, nZ0, nZ1]
  split
  · rename_i hc5
    skip
    unfold w_X16_onePass_12
    try simp only [forall_eq, rII, rIJ, rIP, rJJ, rJI, rJP, rPP, rPI, rPJ, g1, g2, g3, g4, g5, g6, g7, g8, Nat.reduceEqDiff, Nat.reduceAdd, false_and, and_false, true_and, and_true, reduceIte, nZ0, nZ1]
    unfold w_X16_onePass_13
    try simp only [forall_eq, rII, rIJ, rIP, rJJ, rJI, rJP, rPP, rPI, rPJ, g1, g2, g3, g4, g5, g6, g7, g8, Nat.reduceEqDiff, Nat.reduceAdd, false_and, and_false, true_and, and_true, reduceIte, nZ0, nZ1]
    try rw [if_neg (by decide)]
    unfold w_X16_onePass_23
    try simp only [forall_eq, rII, rIJ, rIP, rJJ, rJI, rJP, rPP, rPI, rPJ, g1, g2, g3, g4, g5, g6, g7, g8, Nat.reduceEqDiff, Nat.reduceAdd, false_and, and_false, true_and, and_true, reduceIte, nZ0, nZ1]
    refine s_X16_isRight g (by refine Rg.sI g ?_ (by simp only [rgS]; first | with_reducible exact nZ_rng _ | with_reducible exact nB_rng _ | with_reducible exact wr_rng _ | with_reducible exact i32any _ | (first | omega | with_reducible assumption | (unfold rng; omega) | (unfold rng; (repeat' split) <;> omega) | decide)); exact rσ) (by (try simp only [rII, rIJ, rIP, rJJ, rJI, rJP, rPP, rPI, rPJ, g1, g2, g3, g4, g5, g6, g7, g8, Nat.reduceEqDiff, Nat.reduceAdd, false_and, and_false, true_and, and_true, reduceIte, nZ0, nZ1]) <;> first | exact hj.resolve_left (by assumption)) hja (JobOK.fr (K := []) (S := [0]) (hjo (hj.resolve_left (by assumption))) hja (by repeat (first | exact Fr.rf | assumption | refine Fr.aJ g ?_ (by decide) | refine Fr.aI g ?_ (by decide) | refine Fr.sI g ?_ (by decide) | refine Fr.sJ g ?_ (by decide))) (by decide)) (HeE.fr (jx := jx) (K := []) (S := [0]) hhe (by repeat (first | exact Fr.rf | assumption | refine Fr.aJ g ?_ (by decide) | refine Fr.aI g ?_ (by decide) | refine Fr.sI g ?_ (by decide) | refine Fr.sJ g ?_ (by decide))) (by decide) (by decide)) (fun σ8 r9 rσ8 fc p1 => ?_)
    have fσ8 : Fr ra jx rm [20, 81, 82, 115, 116, 118, 119, 120, 121, 122] [0, 21, 117] σ σ8 := Fr.tr (by refine Fr.sI g ?_ (by decide); exact fσ) (Fr.mor (fc) (by decide) (by decide))
    have jσ8 := fσ8.2.2.1
    have pσ8 := fσ8.2.2.2
    try simp only [forall_eq, rII, rIJ, rIP, rJJ, rJI, rJP, rPP, rPI, rPJ, g1, g2, g3, g4, g5, g6, g7, g8, Nat.reduceEqDiff, Nat.reduceAdd, false_and, and_false, true_and, and_true, reduceIte, nZ0, nZ1, fun a k => (jσ8 a k).1, fun a k => (jσ8 a k).2, pσ8]
    split
    · rename_i hc27
      skip
      unfold w_X16_onePass_34
      try simp only [forall_eq, rII, rIJ, rIP, rJJ, rJI, rJP, rPP, rPI, rPJ, g1, g2, g3, g4, g5, g6, g7, g8, Nat.reduceEqDiff, Nat.reduceAdd, false_and, and_false, true_and, and_true, reduceIte, nZ0, nZ1, fun a k => (jσ8 a k).1, fun a k => (jσ8 a k).2, pσ8]
      unfold w_X16_onePass_35
      try simp only [forall_eq, rII, rIJ, rIP, rJJ, rJI, rJP, rPP, rPI, rPJ, g1, g2, g3, g4, g5, g6, g7, g8, Nat.reduceEqDiff, Nat.reduceAdd, false_and, and_false, true_and, and_true, reduceIte, nZ0, nZ1, fun a k => (jσ8 a k).1, fun a k => (jσ8 a k).2, pσ8]
      refine ⟨by (first | omega | with_reducible assumption | (unfold rng; omega) | (unfold rng; (repeat' split) <;> omega) | decide), ?_⟩
      refine hQ _ _ ?_ ?_ ?_
      · exact rσ8
      · exact fσ8
      · exact trivial
    · rename_i hc27
      skip
      unfold w_X16_onePass_30
      try simp only [forall_eq, rII, rIJ, rIP, rJJ, rJI, rJP, rPP, rPI, rPJ, g1, g2, g3, g4, g5, g6, g7, g8, Nat.reduceEqDiff, Nat.reduceAdd, false_and, and_false, true_and, and_true, reduceIte, nZ0, nZ1, fun a k => (jσ8 a k).1, fun a k => (jσ8 a k).2, pσ8]
      unfold w_X16_onePass_35
      try simp only [forall_eq, rII, rIJ, rIP, rJJ, rJI, rJP, rPP, rPI, rPJ, g1, g2, g3, g4, g5, g6, g7, g8, Nat.reduceEqDiff, Nat.reduceAdd, false_and, and_false, true_and, and_true, reduceIte, nZ0, nZ1, fun a k => (jσ8 a k).1, fun a k => (jσ8 a k).2, pσ8]
      refine ⟨by (first | omega | with_reducible assumption | (unfold rng; omega) | (unfold rng; (repeat' split) <;> omega) | decide), ?_⟩
      refine hQ _ _ ?_ ?_ ?_
      · exact rσ8
      · exact fσ8
      · exact trivial
  · rename_i hc5
    skip
    unfold w_X16_onePass_8
    try simp only [forall_eq, rII, rIJ, rIP, rJJ, rJI, rJP, rPP, rPI, rPJ, g1, g2, g3, g4, g5, g6, g7, g8, Nat.reduceEqDiff, Nat.reduceAdd, false_and, and_false, true_and, and_true, reduceIte, nZ0, nZ1]
    unfold w_X16_onePass_13
    try simp only [forall_eq, rII, rIJ, rIP, rJJ, rJI, rJP, rPP, rPI, rPJ, g1, g2, g3, g4, g5, g6, g7, g8, Nat.reduceEqDiff, Nat.reduceAdd, false_and, and_false, true_and, and_true, reduceIte, nZ0, nZ1]
    try rw [if_pos (by decide)]
    unfold w_X16_onePass_34
    try simp only [forall_eq, rII, rIJ, rIP, rJJ, rJI, rJP, rPP, rPI, rPJ, g1, g2, g3, g4, g5, g6, g7, g8, Nat.reduceEqDiff, Nat.reduceAdd, false_and, and_false, true_and, and_true, reduceIte, nZ0, nZ1]
    unfold w_X16_onePass_35
    try simp only [forall_eq, rII, rIJ, rIP, rJJ, rJI, rJP, rPP, rPI, rPJ, g1, g2, g3, g4, g5, g6, g7, g8, Nat.reduceEqDiff, Nat.reduceAdd, false_and, and_false, true_and, and_true, reduceIte, nZ0, nZ1]
    refine ⟨by (first | omega | with_reducible assumption | (unfold rng; omega) | (unfold rng; (repeat' split) <;> omega) | decide), ?_⟩
    refine hQ _ _ ?_ ?_ ?_
    · refine Rg.sI g ?_ (by simp only [rgS]; first | with_reducible exact nZ_rng _ | with_reducible exact nB_rng _ | with_reducible exact wr_rng _ | with_reducible exact i32any _ | (first | omega | with_reducible assumption | (unfold rng; omega) | (unfold rng; (repeat' split) <;> omega) | decide)); exact rσ
    · refine Fr.sI g ?_ (by decide); exact fσ
    · exact trivial

set_option maxHeartbeats 2000000 in
theorem s2_X15_add {ra : Nat → Nat} {jx : Nat → Nat → Nat} {rm : Nat} {jm : Nat} (g : Geo ra jx rm) {σ : Sg} {v1 : Int} {v2 : Int64} (rσ : Rg ra jx rm σ) (hjm : jm = ra 15 ∨ jm = ra 16) (h1 : 0 ≤ v1 ∧ v1 < 16) (hc : gI σ (jx jm 6) v1.toNat ≤ 7) {Q : Sg → Unit → Prop} {X : Sg → String → Prop} (hQ : ∀ (σ' : Sg) (r : Unit), Rg ra jx rm σ' → FdO ra jx rm jm v1 [] [] [6, 7] σ σ' → (gI σ' (jx jm 6) v1.toNat = gI σ (jx jm 6) v1.toNat + 1 ∧ (∀ i : Nat, i ≠ v1.toNat → gI σ' (jx jm 6) i = gI σ (jx jm 6) i)) → Q σ' r) : wp_X15_add ra jx rm jm v1 v2 σ Q X := by
  obtain ⟨g1, g2, g3, g4, g5, g6, g7, g8⟩ := id g
  have fσ : FdO ra jx rm jm v1 [] [] [6, 7] σ σ := FdO.rf
  unfold wp_X15_add
  unfold w_X15_add_0
  try simp only [forall_eq, rII, rIJ, rIP, rJJ, rJI, rJP, rPP, rPI, rPJ, g1, g2, g3, g4, g5, g6, g7, g8, Nat.reduceEqDiff, Nat.reduceAdd, false_and, and_false, true_and, and_true, reduceIte, nZ0, nZ1]
  refine ⟨by (first | omega | with_reducible assumption | (unfold rng; omega) | (unfold rng; (repeat' split) <;> omega) | grind), ?_⟩
  refine ⟨by (first | omega | with_reducible assumption | (unfold rng; omega) | (unfold rng; (repeat' split) <;> omega) | grind), ?_⟩
  have q1 := rσ.2.2.1 jm 6 (v1.toNat); simp only [rgJ] at q1
  refine ⟨by (first | omega | with_reducible assumption | (unfold rng; omega) | (unfold rng; (repeat' split) <;> omega) | grind), ?_⟩
  refine ⟨by (first | omega | with_reducible assumption | (unfold rng; omega) | (unfold rng; (repeat' split) <;> omega) | grind), ?_⟩
  refine ⟨by (first | omega | with_reducible assumption | (unfold rng; omega) | (unfold rng; (repeat' split) <;> omega) | grind), ?_⟩
  refine ⟨by (first | omega | with_reducible assumption | (unfold rng; omega) | (unfold rng; (repeat' split) <;> omega) | grind), ?_⟩
  refine ⟨by (first | omega | with_reducible assumption | (unfold rng; omega) | (unfold rng; (repeat' split) <;> omega) | grind), ?_⟩
  refine hQ _ _ ?_ ?_ ?_
  · refine Rg.jI g ?_ (by simp only [rgJ]; first | with_reducible exact nZ_rng _ | with_reducible exact nB_rng _ | with_reducible exact wr_rng _ | with_reducible exact i32any _ | (first | omega | with_reducible assumption | (unfold rng; omega) | (unfold rng; (repeat' split) <;> omega) | grind)); refine Rg.jJ g ?_; exact rσ
  · refine FdO.jI g ?_ hjm (by decide) (by (simp only [Jk]) <;> (first | omega | with_reducible assumption | (unfold rng; omega) | (unfold rng; (repeat' split) <;> omega) | grind)); refine FdO.jJ g ?_ hjm (by decide) (by (simp only [Jk]) <;> (first | omega | with_reducible assumption | (unfold rng; omega) | (unfold rng; (repeat' split) <;> omega) | grind)); exact fσ
  · refine ⟨?_, fun i hi => ?_⟩ <;> (try simp only [rII, rIJ, rIP, rJJ, rJI, rJP, rPP, rPI, rPJ, g1, g2, g3, g4, g5, g6, g7, g8, Nat.reduceEqDiff, Nat.reduceAdd, false_and, and_false, true_and, and_true, reduceIte, nZ0, nZ1]) <;> (repeat' split) <;> first | omega | grind
set_option maxHeartbeats 2000000 in
theorem s2_X15_column {ra : Nat → Nat} {jx : Nat → Nat → Nat} {rm : Nat} {jm : Nat} (g : Geo ra jx rm) {σ : Sg} {v1 : Int} {v2 : Int64} (rσ : Rg ra jx rm σ) (hjm : jm = ra 15 ∨ jm = ra 16) (h1 : 0 ≤ v1 ∧ v1 < 16) {Q : Sg → Int → Prop} {X : Sg → String → Prop} (hQ : ∀ (r : Int), (-1 ≤ r ∧ r < 8) → Q σ r) : wp_X15_column ra jx rm jm v1 v2 σ Q X := by
  obtain ⟨g1, g2, g3, g4, g5, g6, g7, g8⟩ := id g
  have fσ : Fr ra jx rm [] [] σ σ := Fr.rf
  unfold wp_X15_column
  unfold w_X15_column_0
  try simp only [forall_eq, rII, rIJ, rIP, rJJ, rJI, rJP, rPP, rPI, rPJ, g1, g2, g3, g4, g5, g6, g7, g8, Nat.reduceEqDiff, Nat.reduceAdd, false_and, and_false, true_and, and_true, reduceIte, nZ0, nZ1]
  have q1 := rσ.2.2.1 jm 6 (v1.toNat); simp only [rgJ] at q1
  have L6 : ∀ (fu6 : Nat) (v4 : Int) (v5 : Int), (0 ≤ v5 ∧ v5 ≤ (gI σ (jx jm 6) v1.toNat) ∧ -1 ≤ v4 ∧ v4 < 8) → (((gI σ (jx jm 6) v1.toNat) - v5).toNat) < fu6 → wl_X15_column_6 ra jx rm jm Q X fu6 σ v1 v2 v4 v5 := by
    intro fu6
    induction fu6 with
    | zero => intro  _ _ _ h9; omega
    | succ fu6 ih6 =>
      intro v4 v5 hi6 hm6
      unfold wl_X15_column_6
      unfold w_X15_column_6
      try simp only [forall_eq, rII, rIJ, rIP, rJJ, rJI, rJP, rPP, rPI, rPJ, g1, g2, g3, g4, g5, g6, g7, g8, Nat.reduceEqDiff, Nat.reduceAdd, false_and, and_false, true_and, and_true, reduceIte, nZ0, nZ1]
      refine ⟨by (first | omega | with_reducible assumption | (unfold rng; omega) | (unfold rng; (repeat' split) <;> omega) | grind), ?_⟩
      split
      · rename_i hc14
        skip
        unfold w_X15_column_49
        try simp only [forall_eq, rII, rIJ, rIP, rJJ, rJI, rJP, rPP, rPI, rPJ, g1, g2, g3, g4, g5, g6, g7, g8, Nat.reduceEqDiff, Nat.reduceAdd, false_and, and_false, true_and, and_true, reduceIte, nZ0, nZ1]
        refine hQ _ ?_
        · (try simp only [rII, rIJ, rIP, rJJ, rJI, rJP, rPP, rPI, rPJ, g1, g2, g3, g4, g5, g6, g7, g8, Nat.reduceEqDiff, Nat.reduceAdd, false_and, and_false, true_and, and_true, reduceIte, nZ0, nZ1]) <;> (first | omega | with_reducible assumption | (unfold rng; omega) | (unfold rng; (repeat' split) <;> omega) | grind)
      · rename_i hc14
        skip
        unfold w_X15_column_17
        try simp only [forall_eq, rII, rIJ, rIP, rJJ, rJI, rJP, rPP, rPI, rPJ, g1, g2, g3, g4, g5, g6, g7, g8, Nat.reduceEqDiff, Nat.reduceAdd, false_and, and_false, true_and, and_true, reduceIte, nZ0, nZ1]
        refine ⟨by (first | omega | with_reducible assumption | (unfold rng; omega) | (unfold rng; (repeat' split) <;> omega) | grind), ?_⟩
        refine ⟨by (first | omega | with_reducible assumption | (unfold rng; omega) | (unfold rng; (repeat' split) <;> omega) | grind), ?_⟩
        refine ⟨by (first | omega | with_reducible assumption | (unfold rng; omega) | (unfold rng; (repeat' split) <;> omega) | grind), ?_⟩
        split
        · rename_i hc31
          skip
          unfold w_X15_column_39
          try simp only [forall_eq, rII, rIJ, rIP, rJJ, rJI, rJP, rPP, rPI, rPJ, g1, g2, g3, g4, g5, g6, g7, g8, Nat.reduceEqDiff, Nat.reduceAdd, false_and, and_false, true_and, and_true, reduceIte, nZ0, nZ1]
          unfold w_X15_column_41
          try simp only [forall_eq, rII, rIJ, rIP, rJJ, rJI, rJP, rPP, rPI, rPJ, g1, g2, g3, g4, g5, g6, g7, g8, Nat.reduceEqDiff, Nat.reduceAdd, false_and, and_false, true_and, and_true, reduceIte, nZ0, nZ1]
          refine ⟨by (first | omega | with_reducible assumption | (unfold rng; omega) | (unfold rng; (repeat' split) <;> omega) | grind), ?_⟩
          refine ih6 _ _ ?_ ?_
          · (try simp only [rII, rIJ, rIP, rJJ, rJI, rJP, rPP, rPI, rPJ, g1, g2, g3, g4, g5, g6, g7, g8, Nat.reduceEqDiff, Nat.reduceAdd, false_and, and_false, true_and, and_true, reduceIte, nZ0, nZ1]) <;> (first | omega | with_reducible assumption | (unfold rng; omega) | (unfold rng; (repeat' split) <;> omega) | grind)
          · (try simp only [rII, rIJ, rIP, rJJ, rJI, rJP, rPP, rPI, rPJ, g1, g2, g3, g4, g5, g6, g7, g8, Nat.reduceEqDiff, Nat.reduceAdd, false_and, and_false, true_and, and_true, reduceIte, nZ0, nZ1]) <;> (first | omega | with_reducible assumption | (unfold rng; omega) | (unfold rng; (repeat' split) <;> omega) | grind)
        · rename_i hc31
          skip
          unfold w_X15_column_34
          try simp only [forall_eq, rII, rIJ, rIP, rJJ, rJI, rJP, rPP, rPI, rPJ, g1, g2, g3, g4, g5, g6, g7, g8, Nat.reduceEqDiff, Nat.reduceAdd, false_and, and_false, true_and, and_true, reduceIte, nZ0, nZ1]
          unfold w_X15_column_41
          try simp only [forall_eq, rII, rIJ, rIP, rJJ, rJI, rJP, rPP, rPI, rPJ, g1, g2, g3, g4, g5, g6, g7, g8, Nat.reduceEqDiff, Nat.reduceAdd, false_and, and_false, true_and, and_true, reduceIte, nZ0, nZ1]
          refine ⟨by (first | omega | with_reducible assumption | (unfold rng; omega) | (unfold rng; (repeat' split) <;> omega) | grind), ?_⟩
          refine ih6 _ _ ?_ ?_
          · (try simp only [rII, rIJ, rIP, rJJ, rJI, rJP, rPP, rPI, rPJ, g1, g2, g3, g4, g5, g6, g7, g8, Nat.reduceEqDiff, Nat.reduceAdd, false_and, and_false, true_and, and_true, reduceIte, nZ0, nZ1]) <;> (first | omega | with_reducible assumption | (unfold rng; omega) | (unfold rng; (repeat' split) <;> omega) | grind)
          · (try simp only [rII, rIJ, rIP, rJJ, rJI, rJP, rPP, rPI, rPJ, g1, g2, g3, g4, g5, g6, g7, g8, Nat.reduceEqDiff, Nat.reduceAdd, false_and, and_false, true_and, and_true, reduceIte, nZ0, nZ1]) <;> (first | omega | with_reducible assumption | (unfold rng; omega) | (unfold rng; (repeat' split) <;> omega) | grind)
  refine ⟨_, L6 _ _ _ ?_ (Nat.lt_succ_self _)⟩
  · (try simp only [rII, rIJ, rIP, rJJ, rJI, rJP, rPP, rPI, rPJ, g1, g2, g3, g4, g5, g6, g7, g8, Nat.reduceEqDiff, Nat.reduceAdd, false_and, and_false, true_and, and_true, reduceIte, nZ0, nZ1]) <;> (first | omega | with_reducible assumption | (unfold rng; omega) | (unfold rng; (repeat' split) <;> omega) | grind)
set_option maxHeartbeats 2000000 in
theorem s2_X15_find {ra : Nat → Nat} {jx : Nat → Nat → Nat} {rm : Nat} {jm : Nat} (g : Geo ra jx rm) {σ : Sg} {v1 : Int64} (rσ : Rg ra jx rm σ) (hjm : jm = ra 15 ∨ jm = ra 16) (hm : 0 ≤ gI σ jm 0 ∧ gI σ jm 0 ≤ 16) {Q : Sg → Int → Prop} {X : Sg → String → Prop} (hQ : ∀ (r : Int), (-1 ≤ r ∧ r < gI σ jm 0) → Q σ r) : wp_X15_find ra jx rm jm v1 σ Q X := by
  obtain ⟨g1, g2, g3, g4, g5, g6, g7, g8⟩ := id g
  have fσ : Fr ra jx rm [] [] σ σ := Fr.rf
  unfold wp_X15_find
  unfold w_X15_find_0
  try simp only [forall_eq, rII, rIJ, rIP, rJJ, rJI, rJP, rPP, rPI, rPJ, g1, g2, g3, g4, g5, g6, g7, g8, Nat.reduceEqDiff, Nat.reduceAdd, false_and, and_false, true_and, and_true, reduceIte, nZ0, nZ1]
  have L5 : ∀ (fu5 : Nat) (v3 : Int) (v4 : Int), (0 ≤ v4 ∧ v4 ≤ gI σ jm 0 ∧ -1 ≤ v3 ∧ v3 < gI σ jm 0) → ((gI σ jm 0 - v4).toNat) < fu5 → wl_X15_find_5 ra jx rm jm Q X fu5 σ v1 v3 v4 := by
    intro fu5
    induction fu5 with
    | zero => intro  _ _ _ h9; omega
    | succ fu5 ih5 =>
      intro v3 v4 hi5 hm5
      unfold wl_X15_find_5
      unfold w_X15_find_5
      try simp only [forall_eq, rII, rIJ, rIP, rJJ, rJI, rJP, rPP, rPI, rPJ, g1, g2, g3, g4, g5, g6, g7, g8, Nat.reduceEqDiff, Nat.reduceAdd, false_and, and_false, true_and, and_true, reduceIte, nZ0, nZ1]
      split
      · rename_i hc11
        skip
        unfold w_X15_find_51
        try simp only [forall_eq, rII, rIJ, rIP, rJJ, rJI, rJP, rPP, rPI, rPJ, g1, g2, g3, g4, g5, g6, g7, g8, Nat.reduceEqDiff, Nat.reduceAdd, false_and, and_false, true_and, and_true, reduceIte, nZ0, nZ1]
        refine hQ _ ?_
        · (try simp only [rII, rIJ, rIP, rJJ, rJI, rJP, rPP, rPI, rPJ, g1, g2, g3, g4, g5, g6, g7, g8, Nat.reduceEqDiff, Nat.reduceAdd, false_and, and_false, true_and, and_true, reduceIte, nZ0, nZ1]) <;> (first | omega | with_reducible assumption | (unfold rng; omega) | (unfold rng; (repeat' split) <;> omega) | grind)
      · rename_i hc11
        skip
        unfold w_X15_find_14
        try simp only [forall_eq, rII, rIJ, rIP, rJJ, rJI, rJP, rPP, rPI, rPJ, g1, g2, g3, g4, g5, g6, g7, g8, Nat.reduceEqDiff, Nat.reduceAdd, false_and, and_false, true_and, and_true, reduceIte, nZ0, nZ1]
        refine ⟨by (first | omega | with_reducible assumption | (unfold rng; omega) | (unfold rng; (repeat' split) <;> omega) | grind), ?_⟩
        have q2 := rσ.2.2.1 jm 2 (v4.toNat); simp only [rgJ] at q2
        split
        · rename_i hc23
          skip
          unfold w_X15_find_43
          try simp only [forall_eq, rII, rIJ, rIP, rJJ, rJI, rJP, rPP, rPI, rPJ, g1, g2, g3, g4, g5, g6, g7, g8, Nat.reduceEqDiff, Nat.reduceAdd, false_and, and_false, true_and, and_true, reduceIte, nZ0, nZ1]
          unfold w_X15_find_44
          try simp only [forall_eq, rII, rIJ, rIP, rJJ, rJI, rJP, rPP, rPI, rPJ, g1, g2, g3, g4, g5, g6, g7, g8, Nat.reduceEqDiff, Nat.reduceAdd, false_and, and_false, true_and, and_true, reduceIte, nZ0, nZ1]
          refine ⟨by (first | omega | with_reducible assumption | (unfold rng; omega) | (unfold rng; (repeat' split) <;> omega) | grind), ?_⟩
          refine ih5 _ _ ?_ ?_
          · (try simp only [rII, rIJ, rIP, rJJ, rJI, rJP, rPP, rPI, rPJ, g1, g2, g3, g4, g5, g6, g7, g8, Nat.reduceEqDiff, Nat.reduceAdd, false_and, and_false, true_and, and_true, reduceIte, nZ0, nZ1]) <;> (first | omega | with_reducible assumption | (unfold rng; omega) | (unfold rng; (repeat' split) <;> omega) | grind)
          · (try simp only [rII, rIJ, rIP, rJJ, rJI, rJP, rPP, rPI, rPJ, g1, g2, g3, g4, g5, g6, g7, g8, Nat.reduceEqDiff, Nat.reduceAdd, false_and, and_false, true_and, and_true, reduceIte, nZ0, nZ1]) <;> (first | omega | with_reducible assumption | (unfold rng; omega) | (unfold rng; (repeat' split) <;> omega) | grind)
        · rename_i hc23
          skip
          unfold w_X15_find_26
          try simp only [forall_eq, rII, rIJ, rIP, rJJ, rJI, rJP, rPP, rPI, rPJ, g1, g2, g3, g4, g5, g6, g7, g8, Nat.reduceEqDiff, Nat.reduceAdd, false_and, and_false, true_and, and_true, reduceIte, nZ0, nZ1]
          refine ⟨by (first | omega | with_reducible assumption | (unfold rng; omega) | (unfold rng; (repeat' split) <;> omega) | grind), ?_⟩
          split
          · rename_i hc35
            skip
            unfold w_X15_find_43
            try simp only [forall_eq, rII, rIJ, rIP, rJJ, rJI, rJP, rPP, rPI, rPJ, g1, g2, g3, g4, g5, g6, g7, g8, Nat.reduceEqDiff, Nat.reduceAdd, false_and, and_false, true_and, and_true, reduceIte, nZ0, nZ1]
            unfold w_X15_find_44
            try simp only [forall_eq, rII, rIJ, rIP, rJJ, rJI, rJP, rPP, rPI, rPJ, g1, g2, g3, g4, g5, g6, g7, g8, Nat.reduceEqDiff, Nat.reduceAdd, false_and, and_false, true_and, and_true, reduceIte, nZ0, nZ1]
            refine ⟨by (first | omega | with_reducible assumption | (unfold rng; omega) | (unfold rng; (repeat' split) <;> omega) | grind), ?_⟩
            refine ih5 _ _ ?_ ?_
            · (try simp only [rII, rIJ, rIP, rJJ, rJI, rJP, rPP, rPI, rPJ, g1, g2, g3, g4, g5, g6, g7, g8, Nat.reduceEqDiff, Nat.reduceAdd, false_and, and_false, true_and, and_true, reduceIte, nZ0, nZ1]) <;> (first | omega | with_reducible assumption | (unfold rng; omega) | (unfold rng; (repeat' split) <;> omega) | grind)
            · (try simp only [rII, rIJ, rIP, rJJ, rJI, rJP, rPP, rPI, rPJ, g1, g2, g3, g4, g5, g6, g7, g8, Nat.reduceEqDiff, Nat.reduceAdd, false_and, and_false, true_and, and_true, reduceIte, nZ0, nZ1]) <;> (first | omega | with_reducible assumption | (unfold rng; omega) | (unfold rng; (repeat' split) <;> omega) | grind)
          · rename_i hc35
            skip
            unfold w_X15_find_38
            try simp only [forall_eq, rII, rIJ, rIP, rJJ, rJI, rJP, rPP, rPI, rPJ, g1, g2, g3, g4, g5, g6, g7, g8, Nat.reduceEqDiff, Nat.reduceAdd, false_and, and_false, true_and, and_true, reduceIte, nZ0, nZ1]
            unfold w_X15_find_44
            try simp only [forall_eq, rII, rIJ, rIP, rJJ, rJI, rJP, rPP, rPI, rPJ, g1, g2, g3, g4, g5, g6, g7, g8, Nat.reduceEqDiff, Nat.reduceAdd, false_and, and_false, true_and, and_true, reduceIte, nZ0, nZ1]
            refine ⟨by (first | omega | with_reducible assumption | (unfold rng; omega) | (unfold rng; (repeat' split) <;> omega) | grind), ?_⟩
            refine ih5 _ _ ?_ ?_
            · (try simp only [rII, rIJ, rIP, rJJ, rJI, rJP, rPP, rPI, rPJ, g1, g2, g3, g4, g5, g6, g7, g8, Nat.reduceEqDiff, Nat.reduceAdd, false_and, and_false, true_and, and_true, reduceIte, nZ0, nZ1]) <;> (first | omega | with_reducible assumption | (unfold rng; omega) | (unfold rng; (repeat' split) <;> omega) | grind)
            · (try simp only [rII, rIJ, rIP, rJJ, rJI, rJP, rPP, rPI, rPJ, g1, g2, g3, g4, g5, g6, g7, g8, Nat.reduceEqDiff, Nat.reduceAdd, false_and, and_false, true_and, and_true, reduceIte, nZ0, nZ1]) <;> (first | omega | with_reducible assumption | (unfold rng; omega) | (unfold rng; (repeat' split) <;> omega) | grind)
  refine ⟨_, L5 _ _ _ ?_ (Nat.lt_succ_self _)⟩
  · (try simp only [rII, rIJ, rIP, rJJ, rJI, rJP, rPP, rPI, rPJ, g1, g2, g3, g4, g5, g6, g7, g8, Nat.reduceEqDiff, Nat.reduceAdd, false_and, and_false, true_and, and_true, reduceIte, nZ0, nZ1]) <;> (first | omega | with_reducible assumption | (unfold rng; omega) | (unfold rng; (repeat' split) <;> omega) | grind)
set_option maxHeartbeats 4000000 in
theorem s2_X15_copyColumns {ra : Nat → Nat} {jx : Nat → Nat → Nat} {rm : Nat} {jm : Nat} (g : Geo ra jx rm) {σ : Sg} {v1 : Int} {v2 : Int} (rσ : Rg ra jx rm σ) (hjm : jm = ra 15 ∨ jm = ra 16) (h1 : 0 ≤ v1 ∧ v1 < 16) (h2 : 0 ≤ v2 ∧ v2 < 16) (h12 : v1 ≠ v2) (hc : gI σ (jx jm 6) v1.toNat + gI σ (jx jm 6) v2.toNat ≤ 8) {Q : Sg → Unit → Prop} {X : Sg → String → Prop} (hQ : ∀ (σ' : Sg) (r : Unit), Rg ra jx rm σ' → FdO ra jx rm jm v1 [] [] [6, 7] σ σ' → (gI σ' (jx jm 6) v1.toNat = gI σ (jx jm 6) v1.toNat + gI σ (jx jm 6) v2.toNat ∧ (∀ i : Nat, i ≠ v1.toNat → gI σ' (jx jm 6) i = gI σ (jx jm 6) i)) → Q σ' r) : wp_X15_copyColumns ra jx rm jm v1 v2 σ Q X := by
  obtain ⟨g1, g2, g3, g4, g5, g6, g7, g8⟩ := id g
  have fσ : FdO ra jx rm jm v1 [] [] [6, 7] σ σ := FdO.rf
  have q62 := rσ.2.2.1 jm 6 v2.toNat; simp only [rgJ] at q62
  have q61 := rσ.2.2.1 jm 6 v1.toNat; simp only [rgJ] at q61
  have hne : v2.toNat ≠ v1.toNat := by omega
  unfold wp_X15_copyColumns
  unfold w_X15_copyColumns_0
  try simp only [forall_eq, rII, rIJ, rIP, rJJ, rJI, rJP, rPP, rPI, rPJ, g1, g2, g3, g4, g5, g6, g7, g8, Nat.reduceEqDiff, Nat.reduceAdd, false_and, and_false, true_and, and_true, reduceIte, nZ0, nZ1]
  have q1 := rσ.2.2.1 jm 6 (v2.toNat); simp only [rgJ] at q1
  have q2 := rσ.2.2.1 jm 6 (v1.toNat); simp only [rgJ] at q2
  have L2 : ∀ (fu2 : Nat) (τ2 : Sg) (v3 : Int), Rg ra jx rm τ2 → FdO ra jx rm jm v1 [] [] [6, 7] σ τ2 → (0 ≤ v3 ∧ v3 ≤ gI σ (jx jm 6) v2.toNat ∧ gI τ2 (jx jm 6) v1.toNat = gI σ (jx jm 6) v1.toNat + v3 ∧ (∀ i : Nat, i ≠ v1.toNat → gI τ2 (jx jm 6) i = gI σ (jx jm 6) i)) → ((gI σ (jx jm 6) v2.toNat - v3).toNat) < fu2 → wl_X15_copyColumns_2 ra jx rm jm Q X fu2 τ2 v1 v2 v3 := by
    intro fu2
    induction fu2 with
    | zero => intro τ2 _ _ _ _ h9; omega
    | succ fu2 ih2 =>
      intro τ2 v3 rτ2 fτ2 hi2 hm2
      unfold wl_X15_copyColumns_2
      unfold w_X15_copyColumns_2
      try simp only [forall_eq, rII, rIJ, rIP, rJJ, rJI, rJP, rPP, rPI, rPJ, g1, g2, g3, g4, g5, g6, g7, g8, Nat.reduceEqDiff, Nat.reduceAdd, false_and, and_false, true_and, and_true, reduceIte, nZ0, nZ1]
      have hz9 := hi2.2.2.2
      have hz2 := hz9 v2.toNat hne
      have z1 := hi2.1; have z2 := hi2.2.1; have z3 := hi2.2.2.1; clear hi2
      refine ⟨by (first | omega | with_reducible assumption | (unfold rng; omega) | (unfold rng; (repeat' split) <;> omega) | grind), ?_⟩
      have q3 := rτ2.2.2.1 jm 6 (v2.toNat); simp only [rgJ] at q3
      split
      · rename_i hc9
        skip
        unfold w_X15_copyColumns_34
        try simp only [forall_eq, rII, rIJ, rIP, rJJ, rJI, rJP, rPP, rPI, rPJ, g1, g2, g3, g4, g5, g6, g7, g8, Nat.reduceEqDiff, Nat.reduceAdd, false_and, and_false, true_and, and_true, reduceIte, nZ0, nZ1]
        refine hQ _ _ ?_ ?_ ?_
        · exact rτ2
        · exact fτ2
        · exact ⟨by omega, hz9⟩
      · rename_i hc9
        skip
        unfold w_X15_copyColumns_12
        try simp only [forall_eq, rII, rIJ, rIP, rJJ, rJI, rJP, rPP, rPI, rPJ, g1, g2, g3, g4, g5, g6, g7, g8, Nat.reduceEqDiff, Nat.reduceAdd, false_and, and_false, true_and, and_true, reduceIte, nZ0, nZ1]
        refine ⟨by (first | omega | with_reducible assumption | (unfold rng; omega) | (unfold rng; (repeat' split) <;> omega) | grind), ?_⟩
        refine ⟨by (first | omega | with_reducible assumption | (unfold rng; omega) | (unfold rng; (repeat' split) <;> omega) | grind), ?_⟩
        refine ⟨by (first | omega | with_reducible assumption | (unfold rng; omega) | (unfold rng; (repeat' split) <;> omega) | grind), ?_⟩
        refine s2_X15_add g rτ2 hjm (by (try simp only [rII, rIJ, rIP, rJJ, rJI, rJP, rPP, rPI, rPJ, g1, g2, g3, g4, g5, g6, g7, g8, Nat.reduceEqDiff, Nat.reduceAdd, false_and, and_false, true_and, and_true, reduceIte, nZ0, nZ1]) <;> (first | omega | with_reducible assumption | (unfold rng; omega) | (unfold rng; (repeat' split) <;> omega) | grind)) (by (try simp only [rII, rIJ, rIP, rJJ, rJI, rJP, rPP, rPI, rPJ, g1, g2, g3, g4, g5, g6, g7, g8, Nat.reduceEqDiff, Nat.reduceAdd, false_and, and_false, true_and, and_true, reduceIte, nZ0, nZ1]) <;> (first | omega | with_reducible assumption | (unfold rng; omega) | (unfold rng; (repeat' split) <;> omega) | grind)) (fun σ3 _ rσ3 fc p4 => ?_)
        have fσ3 : FdO ra jx rm jm v1 [] [] [6, 7] σ σ3 := FdO.tr fτ2 (FdO.mor (fc) (by decide) (by decide) (by decide))
        have p9 := p4
        try simp only [rII, rIJ, rIP, rJJ, rJI, rJP, rPP, rPI, rPJ, g1, g2, g3, g4, g5, g6, g7, g8, Nat.reduceEqDiff, Nat.reduceAdd, false_and, and_false, true_and, and_true, reduceIte, nZ0, nZ1] at p4
        try simp only [forall_eq, rII, rIJ, rIP, rJJ, rJI, rJP, rPP, rPI, rPJ, g1, g2, g3, g4, g5, g6, g7, g8, Nat.reduceEqDiff, Nat.reduceAdd, false_and, and_false, true_and, and_true, reduceIte, nZ0, nZ1]
        refine ⟨by (first | omega | with_reducible assumption | (unfold rng; omega) | (unfold rng; (repeat' split) <;> omega) | grind), ?_⟩
        refine ih2 _ _ ?_ ?_ ?_ ?_
        · exact rσ3
        · exact fσ3
        · refine ⟨by omega, by omega, ?_, fun i hi => ?_⟩ <;> first | omega | rfl | (rw [p9.1]; omega) | (rw [p9.2 i hi]; exact hz9 i hi)
        · (try simp only [rII, rIJ, rIP, rJJ, rJI, rJP, rPP, rPI, rPJ, g1, g2, g3, g4, g5, g6, g7, g8, Nat.reduceEqDiff, Nat.reduceAdd, false_and, and_false, true_and, and_true, reduceIte, nZ0, nZ1]) <;> (first | omega | with_reducible assumption | (unfold rng; omega) | (unfold rng; (repeat' split) <;> omega) | grind)
  refine ⟨_, L2 _ _ _ ?_ ?_ ?_ (Nat.lt_succ_self _)⟩
  · exact rσ
  · exact fσ
  · refine ⟨by omega, by omega, ?_, fun i hi => ?_⟩ <;> first | omega | rfl | (rw [p9.1]; omega) | (rw [p9.2 i hi]; exact hz9 i hi)
set_option maxHeartbeats 2000000 in
theorem s2_X15_step {ra : Nat → Nat} {jx : Nat → Nat → Nat} {rm : Nat} {jm : Nat} {o : Int} (g : Geo ra jx rm) {σ : Sg} {v1 : Int} {v2 : Int64} (rσ : Rg ra jx rm σ) (hjm : jm = ra 15 ∨ jm = ra 16) (hs : 0 ≤ gI σ jm 17 ∧ gI σ jm 17 < 6000) (h1 : 0 ≤ v1 ∧ v1 ≤ 17) {Q : Sg → Int → Prop} {X : Sg → String → Prop} (hQ : ∀ (σ' : Sg) (r : Int), Rg ra jx rm σ' → FdO ra jx rm jm o [15, 16] [] [15, 16] σ σ' → (r = gI σ jm 17 ∧ gI σ' jm 17 = gI σ jm 17 + 1 ∧ (∀ i : Nat, gI σ' (jx jm 15) i = if i = (gI σ jm 17).toNat then v1 else gI σ (jx jm 15) i) ∧ (∀ i : Nat, gJ σ' (jx jm 16) i = if i = (gI σ jm 17).toNat then v2 else gJ σ (jx jm 16) i) ∧ (∀ k, k ≠ 17 → gI σ' jm k = gI σ jm k)) → Q σ' r) : wp_X15_step ra jx rm jm v1 v2 σ Q X := by
  obtain ⟨g1, g2, g3, g4, g5, g6, g7, g8⟩ := id g
  have fσ : FdO ra jx rm jm o [15, 16] [] [15, 16] σ σ := FdO.rf
  unfold wp_X15_step
  unfold w_X15_step_0
  try simp only [forall_eq, rII, rIJ, rIP, rJJ, rJI, rJP, rPP, rPI, rPJ, g1, g2, g3, g4, g5, g6, g7, g8, Nat.reduceEqDiff, Nat.reduceAdd, false_and, and_false, true_and, and_true, reduceIte, nZ0, nZ1]
  refine ⟨by (first | omega | with_reducible assumption | (unfold rng; omega) | (unfold rng; (repeat' split) <;> omega) | grind), ?_⟩
  refine ⟨by (first | omega | with_reducible assumption | (unfold rng; omega) | (unfold rng; (repeat' split) <;> omega) | grind), ?_⟩
  refine ⟨by (first | omega | with_reducible assumption | (unfold rng; omega) | (unfold rng; (repeat' split) <;> omega) | grind), ?_⟩
  refine ⟨by (first | omega | with_reducible assumption | (unfold rng; omega) | (unfold rng; (repeat' split) <;> omega) | grind), ?_⟩
  refine hQ _ _ ?_ ?_ ?_
  · refine Rg.oI g ?_ (by assumption) (by (first | omega | with_reducible assumption | (unfold rng; omega) | (unfold rng; (repeat' split) <;> omega) | grind)); refine Rg.jJ g ?_; refine Rg.jI g ?_ (by simp only [rgJ]; first | with_reducible exact nZ_rng _ | with_reducible exact nB_rng _ | with_reducible exact wr_rng _ | with_reducible exact i32any _ | (first | omega | with_reducible assumption | (unfold rng; omega) | (unfold rng; (repeat' split) <;> omega) | grind)); exact rσ
  · refine FdO.oI g ?_ hjm (by decide) (by intro q9; first | omega | exact absurd q9 (by decide) | (first | omega | with_reducible assumption | (unfold rng; omega) | (unfold rng; (repeat' split) <;> omega) | grind)); refine FdO.jJ g ?_ hjm (by decide) (by (simp only [Jk]) <;> (first | omega | with_reducible assumption | (unfold rng; omega) | (unfold rng; (repeat' split) <;> omega) | grind)); refine FdO.jI g ?_ hjm (by decide) (by (simp only [Jk]) <;> (first | omega | with_reducible assumption | (unfold rng; omega) | (unfold rng; (repeat' split) <;> omega) | grind)); exact fσ
  · (try simp only [rII, rIJ, rIP, rJJ, rJI, rJP, rPP, rPI, rPJ, g1, g2, g3, g4, g5, g6, g7, g8, Nat.reduceEqDiff, Nat.reduceAdd, false_and, and_false, true_and, and_true, reduceIte, nZ0, nZ1]) <;> (first | omega | with_reducible assumption | (unfold rng; omega) | (unfold rng; (repeat' split) <;> omega) | grind)
set_option maxHeartbeats 2000000 in
theorem s2_X16_byteAt {ra : Nat → Nat} {jx : Nat → Nat → Nat} {rm : Nat} (g : Geo ra jx rm) {σ : Sg} {v1 : Int} (rσ : Rg ra jx rm σ) (h1 : 0 ≤ v1 ∧ v1 < 1500) {Q : Sg → Int → Prop} {X : Sg → String → Prop} (hQ : ∀ (r : Int), (r = bt (gI σ (ra 2) v1.toNat) ∧ 0 ≤ r ∧ r ≤ 255) → Q σ r) : wp_X16_byteAt ra jx rm v1 σ Q X := by
  obtain ⟨g1, g2, g3, g4, g5, g6, g7, g8⟩ := id g
  have fσ : Fr ra jx rm [] [] σ σ := Fr.rf
  unfold wp_X16_byteAt
  unfold w_X16_byteAt_0
  try simp only [forall_eq, rII, rIJ, rIP, rJJ, rJI, rJP, rPP, rPI, rPJ, g1, g2, g3, g4, g5, g6, g7, g8, Nat.reduceEqDiff, Nat.reduceAdd, false_and, and_false, true_and, and_true, reduceIte, nZ0, nZ1]
  refine ⟨by (first | omega | with_reducible assumption | (unfold rng; omega) | (unfold rng; (repeat' split) <;> omega) | grind), ?_⟩
  have q1 := rσ.1 2 (v1.toNat); simp only [rgT] at q1
  refine hQ _ ?_
  · exact ⟨rfl, and255 _⟩
set_option maxHeartbeats 2000000 in
theorem s2_X16_within {ra : Nat → Nat} {jx : Nat → Nat → Nat} {rm : Nat} (g : Geo ra jx rm) {σ : Sg} {v0 : Int64} {v2 : Int64} {v4 : Int64} (rσ : Rg ra jx rm σ) {Q : Sg → Int → Prop} {X : Sg → String → Prop} (hQ : ∀ (r : Int), ((r = 1 ∧ v2 ≤ v0 ∧ v0 ≤ v4) ∨ (r = 0 ∧ ¬ (v2 ≤ v0 ∧ v0 ≤ v4))) → Q σ r) : wp_X16_within ra jx rm v0 v2 v4 σ Q X := by
  obtain ⟨g1, g2, g3, g4, g5, g6, g7, g8⟩ := id g
  have fσ : Fr ra jx rm [] [] σ σ := Fr.rf
  unfold wp_X16_within
  unfold w_X16_within_0
  try simp only [forall_eq, rII, rIJ, rIP, rJJ, rJI, rJP, rPP, rPI, rPJ, g1, g2, g3, g4, g5, g6, g7, g8, Nat.reduceEqDiff, Nat.reduceAdd, false_and, and_false, true_and, and_true, reduceIte, nZ0, nZ1]
  split
  · rename_i hc3
    skip
    unfold w_X16_within_17
    try simp only [forall_eq, rII, rIJ, rIP, rJJ, rJI, rJP, rPP, rPI, rPJ, g1, g2, g3, g4, g5, g6, g7, g8, Nat.reduceEqDiff, Nat.reduceAdd, false_and, and_false, true_and, and_true, reduceIte, nZ0, nZ1]
    unfold w_X16_within_18
    try simp only [forall_eq, rII, rIJ, rIP, rJJ, rJI, rJP, rPP, rPI, rPJ, g1, g2, g3, g4, g5, g6, g7, g8, Nat.reduceEqDiff, Nat.reduceAdd, false_and, and_false, true_and, and_true, reduceIte, nZ0, nZ1]
    refine ⟨by (first | omega | with_reducible assumption | (unfold rng; omega) | (unfold rng; (repeat' split) <;> omega) | grind), ?_⟩
    refine hQ _ ?_
    · first | exact Or.inl ⟨rfl, by grind, by grind⟩ | exact Or.inr ⟨rfl, by grind⟩
  · rename_i hc3
    skip
    unfold w_X16_within_6
    try simp only [forall_eq, rII, rIJ, rIP, rJJ, rJI, rJP, rPP, rPI, rPJ, g1, g2, g3, g4, g5, g6, g7, g8, Nat.reduceEqDiff, Nat.reduceAdd, false_and, and_false, true_and, and_true, reduceIte, nZ0, nZ1]
    split
    · rename_i hc10
      skip
      unfold w_X16_within_17
      try simp only [forall_eq, rII, rIJ, rIP, rJJ, rJI, rJP, rPP, rPI, rPJ, g1, g2, g3, g4, g5, g6, g7, g8, Nat.reduceEqDiff, Nat.reduceAdd, false_and, and_false, true_and, and_true, reduceIte, nZ0, nZ1]
      unfold w_X16_within_18
      try simp only [forall_eq, rII, rIJ, rIP, rJJ, rJI, rJP, rPP, rPI, rPJ, g1, g2, g3, g4, g5, g6, g7, g8, Nat.reduceEqDiff, Nat.reduceAdd, false_and, and_false, true_and, and_true, reduceIte, nZ0, nZ1]
      refine ⟨by (first | omega | with_reducible assumption | (unfold rng; omega) | (unfold rng; (repeat' split) <;> omega) | grind), ?_⟩
      refine hQ _ ?_
      · first | exact Or.inl ⟨rfl, by grind, by grind⟩ | exact Or.inr ⟨rfl, by grind⟩
    · rename_i hc10
      skip
      unfold w_X16_within_13
      try simp only [forall_eq, rII, rIJ, rIP, rJJ, rJI, rJP, rPP, rPI, rPJ, g1, g2, g3, g4, g5, g6, g7, g8, Nat.reduceEqDiff, Nat.reduceAdd, false_and, and_false, true_and, and_true, reduceIte, nZ0, nZ1]
      unfold w_X16_within_18
      try simp only [forall_eq, rII, rIJ, rIP, rJJ, rJI, rJP, rPP, rPI, rPJ, g1, g2, g3, g4, g5, g6, g7, g8, Nat.reduceEqDiff, Nat.reduceAdd, false_and, and_false, true_and, and_true, reduceIte, nZ0, nZ1]
      refine ⟨by (first | omega | with_reducible assumption | (unfold rng; omega) | (unfold rng; (repeat' split) <;> omega) | grind), ?_⟩
      refine hQ _ ?_
      · first | exact Or.inl ⟨rfl, by grind, by grind⟩ | exact Or.inr ⟨rfl, by grind⟩
set_option maxHeartbeats 8000000 in
theorem s2_X16_see {ra : Nat → Nat} {jx : Nat → Nat → Nat} {rm : Nat} (g : Geo ra jx rm) {σ : Sg} (rσ : Rg ra jx rm σ) (hps : PsI rm σ) {Q : Sg → Unit → Prop} {X : Sg → String → Prop} (hQ : ∀ (σ' : Sg) (r : Unit), Rg ra jx rm σ' → Fr ra jx rm [] [4, 5, 7, 8, 9, 10, 11, 12, 13] σ σ' → (PsI rm σ' ∧ cn rm σ ≤ cn rm σ' ∧ gI σ' rm 8 = 1) → Q σ' r) (hX : ∀ (σ' : Sg) (E : String), Rg ra jx rm σ' → Fr ra jx rm [] [4, 5, 7, 8, 9, 10, 11, 12, 13] σ σ' → (E = "StreamHouseModel$Fault") → X σ' E) : wp_X16_see ra jx rm σ Q X := by
  obtain ⟨g1, g2, g3, g4, g5, g6, g7, g8⟩ := id g
  have fσ : Fr ra jx rm [] [4, 5, 7, 8, 9, 10, 11, 12, 13] σ σ := Fr.rf
  have hps1 := hps.1
  have q06 := rσ.2.1 6; simp only [rgS] at q06
  have q07 := rσ.2.1 7; simp only [rgS] at q07
  have q08 := rσ.2.1 8; simp only [rgS] at q08
  unfold wp_X16_see
  unfold w_X16_see_0
  try simp only [forall_eq, rII, rIJ, rIP, rJJ, rJI, rJP, rPP, rPI, rPJ, g1, g2, g3, g4, g5, g6, g7, g8, Nat.reduceEqDiff, Nat.reduceAdd, false_and, and_false, true_and, and_true, reduceIte, nZ0, nZ1]
  have q1 := rσ.2.1 8; simp only [rgS] at q1
  split
  · rename_i hc4
    skip
    have q2 := rσ.2.1 6; simp only [rgS] at q2
    have q3 := rσ.2.1 7; simp only [rgS] at q3
    have L8 : ∀ (fu8 : Nat) (τ8 : Sg), Rg ra jx rm τ8 → Fr ra jx rm [] [4, 5, 7, 8, 9, 10, 11, 12, 13] σ τ8 → (gI τ8 rm 7 ≤ gI σ rm 6 ∧ gI σ rm 7 ≤ gI τ8 rm 7) → ((gI σ rm 6 - gI τ8 rm 7).toNat) < fu8 → wl_X16_see_8 ra jx rm Q X fu8 τ8 := by
      intro fu8
      induction fu8 with
      | zero => intro τ8 _ _ _ h9; omega
      | succ fu8 ih8 =>
        intro τ8 rτ8 fτ8 hi8 hm8
        unfold wl_X16_see_8
        have eτ8_2 := fτ8.1 2 (by decide)
        have sτ8_6 := fτ8.2.1 6 (by decide)
        have jτ8 := fτ8.2.2.1
        unfold w_X16_see_8
        try simp only [forall_eq, rII, rIJ, rIP, rJJ, rJI, rJP, rPP, rPI, rPJ, g1, g2, g3, g4, g5, g6, g7, g8, Nat.reduceEqDiff, Nat.reduceAdd, false_and, and_false, true_and, and_true, reduceIte, nZ0, nZ1, eτ8_2.1, eτ8_2.2, sτ8_6.1, sτ8_6.2, fun a k => (jτ8 a k).1, fun a k => (jτ8 a k).2]
        have q87 := rτ8.2.1 7; simp only [rgS] at q87
        have q4 := rτ8.2.1 7; simp only [rgS] at q4
        split
        · rename_i hc16
          skip
          unfold w_X16_see_45
          try simp only [forall_eq, rII, rIJ, rIP, rJJ, rJI, rJP, rPP, rPI, rPJ, g1, g2, g3, g4, g5, g6, g7, g8, Nat.reduceEqDiff, Nat.reduceAdd, false_and, and_false, true_and, and_true, reduceIte, nZ0, nZ1, eτ8_2.1, eτ8_2.2, sτ8_6.1, sτ8_6.2, fun a k => (jτ8 a k).1, fun a k => (jτ8 a k).2]
          split
          · rename_i hc66
            skip
            unfold w_X16_see_75
            try simp only [forall_eq, rII, rIJ, rIP, rJJ, rJI, rJP, rPP, rPI, rPJ, g1, g2, g3, g4, g5, g6, g7, g8, Nat.reduceEqDiff, Nat.reduceAdd, false_and, and_false, true_and, and_true, reduceIte, nZ0, nZ1, eτ8_2.1, eτ8_2.2, sτ8_6.1, sτ8_6.2, fun a k => (jτ8 a k).1, fun a k => (jτ8 a k).2]
            refine s2_X16_byteAt g (by refine Rg.sI g ?_ (by simp only [rgS]; first | with_reducible exact nZ_rng _ | with_reducible exact nB_rng _ | with_reducible exact wr_rng _ | with_reducible exact i32any _ | (first | omega | with_reducible assumption | (unfold rng; omega) | (unfold rng; (repeat' split) <;> omega) | decide)); refine Rg.sI g ?_ (by simp only [rgS]; first | with_reducible exact nZ_rng _ | with_reducible exact nB_rng _ | with_reducible exact wr_rng _ | with_reducible exact i32any _ | (first | omega | with_reducible assumption | (unfold rng; omega) | (unfold rng; (repeat' split) <;> omega) | decide)); exact rτ8) (by (try simp only [rII, rIJ, rIP, rJJ, rJI, rJP, rPP, rPI, rPJ, g1, g2, g3, g4, g5, g6, g7, g8, Nat.reduceEqDiff, Nat.reduceAdd, false_and, and_false, true_and, and_true, reduceIte, nZ0, nZ1, eτ8_2.1, eτ8_2.2, sτ8_6.1, sτ8_6.2, fun a k => (jτ8 a k).1, fun a k => (jτ8 a k).2]) <;> (first | omega | with_reducible assumption | (unfold rng; omega) | (unfold rng; (repeat' split) <;> omega) | decide)) (fun r86 p5 => ?_)
            try simp only [forall_eq, rII, rIJ, rIP, rJJ, rJI, rJP, rPP, rPI, rPJ, g1, g2, g3, g4, g5, g6, g7, g8, Nat.reduceEqDiff, Nat.reduceAdd, false_and, and_false, true_and, and_true, reduceIte, nZ0, nZ1, eτ8_2.1, eτ8_2.2, sτ8_6.1, sτ8_6.2, fun a k => (jτ8 a k).1, fun a k => (jτ8 a k).2]
            have pb9 := p5.1
            have pb8 := p5.2
            (try simp only [rII, rIJ, rIP, rJJ, rJI, rJP, rPP, rPI, rPJ, g1, g2, g3, g4, g5, g6, g7, g8, Nat.reduceEqDiff, Nat.reduceAdd, false_and, and_false, true_and, and_true, reduceIte, nZ0, nZ1, eτ8_2.1, eτ8_2.2, sτ8_6.1, sτ8_6.2, fun a k => (jτ8 a k).1, fun a k => (jτ8 a k).2] at pb9)
            refine s2_X16_within g (by refine Rg.sI g ?_ (by simp only [rgS]; first | with_reducible exact nZ_rng _ | with_reducible exact nB_rng _ | with_reducible exact wr_rng _ | with_reducible exact i32any _ | (first | omega | with_reducible assumption | (unfold rng; omega) | (unfold rng; (repeat' split) <;> omega) | decide)); refine Rg.sI g ?_ (by simp only [rgS]; first | with_reducible exact nZ_rng _ | with_reducible exact nB_rng _ | with_reducible exact wr_rng _ | with_reducible exact i32any _ | (first | omega | with_reducible assumption | (unfold rng; omega) | (unfold rng; (repeat' split) <;> omega) | decide)); exact rτ8) (fun r88 p6 => ?_)
            try simp only [forall_eq, rII, rIJ, rIP, rJJ, rJI, rJP, rPP, rPI, rPJ, g1, g2, g3, g4, g5, g6, g7, g8, Nat.reduceEqDiff, Nat.reduceAdd, false_and, and_false, true_and, and_true, reduceIte, nZ0, nZ1, eτ8_2.1, eτ8_2.2, sτ8_6.1, sτ8_6.2, fun a k => (jτ8 a k).1, fun a k => (jτ8 a k).2]
            have wr9 : r88 = 0 ∨ r88 = 1 := p6.elim (fun z => Or.inr z.1) (fun z => Or.inl z.1)
            have wl8 : r88 ≠ 0 → _ := fun q => p6.elim (fun z => z.2) (fun z => absurd z.1 q)
            clear p6
            split
            · rename_i hc95
              skip
              unfold w_X16_see_205
              try simp only [forall_eq, rII, rIJ, rIP, rJJ, rJI, rJP, rPP, rPI, rPJ, g1, g2, g3, g4, g5, g6, g7, g8, Nat.reduceEqDiff, Nat.reduceAdd, false_and, and_false, true_and, and_true, reduceIte, nZ0, nZ1, eτ8_2.1, eτ8_2.2, sτ8_6.1, sτ8_6.2, fun a k => (jτ8 a k).1, fun a k => (jτ8 a k).2]
              refine s2_X16_within g (by refine Rg.sI g ?_ (by simp only [rgS]; first | with_reducible exact nZ_rng _ | with_reducible exact nB_rng _ | with_reducible exact wr_rng _ | with_reducible exact i32any _ | (first | omega | with_reducible assumption | (unfold rng; omega) | (unfold rng; (repeat' split) <;> omega) | decide)); refine Rg.sI g ?_ (by simp only [rgS]; first | with_reducible exact nZ_rng _ | with_reducible exact nB_rng _ | with_reducible exact wr_rng _ | with_reducible exact i32any _ | (first | omega | with_reducible assumption | (unfold rng; omega) | (unfold rng; (repeat' split) <;> omega) | decide)); exact rτ8) (fun r90 p7 => ?_)
              try simp only [forall_eq, rII, rIJ, rIP, rJJ, rJI, rJP, rPP, rPI, rPJ, g1, g2, g3, g4, g5, g6, g7, g8, Nat.reduceEqDiff, Nat.reduceAdd, false_and, and_false, true_and, and_true, reduceIte, nZ0, nZ1, eτ8_2.1, eτ8_2.2, sτ8_6.1, sτ8_6.2, fun a k => (jτ8 a k).1, fun a k => (jτ8 a k).2]
              have wr9 : r90 = 0 ∨ r90 = 1 := p7.elim (fun z => Or.inr z.1) (fun z => Or.inl z.1)
              have wl8 : r90 ≠ 0 → _ := fun q => p7.elim (fun z => z.2) (fun z => absurd z.1 q)
              clear p7
              split
              · rename_i hc216
                skip
                unfold w_X16_see_320
                try simp only [forall_eq, rII, rIJ, rIP, rJJ, rJI, rJP, rPP, rPI, rPJ, g1, g2, g3, g4, g5, g6, g7, g8, Nat.reduceEqDiff, Nat.reduceAdd, false_and, and_false, true_and, and_true, reduceIte, nZ0, nZ1, eτ8_2.1, eτ8_2.2, sτ8_6.1, sτ8_6.2, fun a k => (jτ8 a k).1, fun a k => (jτ8 a k).2]
                split
                · rename_i hc324
                  skip
                  unfold w_X16_see_355
                  try simp only [forall_eq, rII, rIJ, rIP, rJJ, rJI, rJP, rPP, rPI, rPJ, g1, g2, g3, g4, g5, g6, g7, g8, Nat.reduceEqDiff, Nat.reduceAdd, false_and, and_false, true_and, and_true, reduceIte, nZ0, nZ1, eτ8_2.1, eτ8_2.2, sτ8_6.1, sτ8_6.2, fun a k => (jτ8 a k).1, fun a k => (jτ8 a k).2]
                  refine s_X16_fail g (by refine Rg.sI g ?_ (by simp only [rgS]; first | with_reducible exact nZ_rng _ | with_reducible exact nB_rng _ | with_reducible exact wr_rng _ | with_reducible exact i32any _ | (first | omega | with_reducible assumption | (unfold rng; omega) | (unfold rng; (repeat' split) <;> omega) | decide)); refine Rg.sI g ?_ (by simp only [rgS]; first | with_reducible exact nZ_rng _ | with_reducible exact nB_rng _ | with_reducible exact wr_rng _ | with_reducible exact i32any _ | (first | omega | with_reducible assumption | (unfold rng; omega) | (unfold rng; (repeat' split) <;> omega) | decide)); exact rτ8) (by (try simp only [rII, rIJ, rIP, rJJ, rJI, rJP, rPP, rPI, rPJ, g1, g2, g3, g4, g5, g6, g7, g8, Nat.reduceEqDiff, Nat.reduceAdd, false_and, and_false, true_and, and_true, reduceIte, nZ0, nZ1, eτ8_2.1, eτ8_2.2, sτ8_6.1, sτ8_6.2, fun a k => (jτ8 a k).1, fun a k => (jτ8 a k).2]) <;> (first | omega | with_reducible assumption | (unfold rng; omega) | (unfold rng; (repeat' split) <;> omega) | decide)) (fun σ91 r92 rσ91 fc p8 => ?_)
                  have fσ91 : Fr ra jx rm [] [4, 5, 7, 8, 9, 10, 11, 12, 13] σ σ91 := Fr.tr (by refine Fr.sI g ?_ (by decide); refine Fr.sI g ?_ (by decide); exact fτ8) (Fr.mor (fc) (by decide) (by decide))
                  have eσ91_2 := fσ91.1 2 (by decide)
                  have sσ91_6 := fσ91.2.1 6 (by decide)
                  have jσ91 := fσ91.2.2.1
                  try simp only [forall_eq, rII, rIJ, rIP, rJJ, rJI, rJP, rPP, rPI, rPJ, g1, g2, g3, g4, g5, g6, g7, g8, Nat.reduceEqDiff, Nat.reduceAdd, false_and, and_false, true_and, and_true, reduceIte, nZ0, nZ1, eσ91_2.1, eσ91_2.2, sσ91_6.1, sσ91_6.2, fun a k => (jσ91 a k).1, fun a k => (jσ91 a k).2]
                  refine ⟨by first | assumption | simp, ?_⟩
                  refine hX _ _ ?_ ?_ ?_
                  · exact rσ91
                  · exact fσ91
                  · exact rfl
                · rename_i hc324
                  skip
                  unfold w_X16_see_327
                  try simp only [forall_eq, rII, rIJ, rIP, rJJ, rJI, rJP, rPP, rPI, rPJ, g1, g2, g3, g4, g5, g6, g7, g8, Nat.reduceEqDiff, Nat.reduceAdd, false_and, and_false, true_and, and_true, reduceIte, nZ0, nZ1, eτ8_2.1, eτ8_2.2, sτ8_6.1, sτ8_6.2, fun a k => (jτ8 a k).1, fun a k => (jτ8 a k).2]
                  intro r93 rgr93
                  unfold rng at rgr93
                  split
                  · rename_i hc334
                    skip
                    unfold w_X16_see_355
                    try simp only [forall_eq, rII, rIJ, rIP, rJJ, rJI, rJP, rPP, rPI, rPJ, g1, g2, g3, g4, g5, g6, g7, g8, Nat.reduceEqDiff, Nat.reduceAdd, false_and, and_false, true_and, and_true, reduceIte, nZ0, nZ1, eτ8_2.1, eτ8_2.2, sτ8_6.1, sτ8_6.2, fun a k => (jτ8 a k).1, fun a k => (jτ8 a k).2]
                    refine s_X16_fail g (by refine Rg.sI g ?_ (by simp only [rgS]; first | with_reducible exact nZ_rng _ | with_reducible exact nB_rng _ | with_reducible exact wr_rng _ | with_reducible exact i32any _ | (first | omega | with_reducible assumption | (unfold rng; omega) | (unfold rng; (repeat' split) <;> omega) | decide)); refine Rg.sI g ?_ (by simp only [rgS]; first | with_reducible exact nZ_rng _ | with_reducible exact nB_rng _ | with_reducible exact wr_rng _ | with_reducible exact i32any _ | (first | omega | with_reducible assumption | (unfold rng; omega) | (unfold rng; (repeat' split) <;> omega) | decide)); exact rτ8) (by (try simp only [rII, rIJ, rIP, rJJ, rJI, rJP, rPP, rPI, rPJ, g1, g2, g3, g4, g5, g6, g7, g8, Nat.reduceEqDiff, Nat.reduceAdd, false_and, and_false, true_and, and_true, reduceIte, nZ0, nZ1, eτ8_2.1, eτ8_2.2, sτ8_6.1, sτ8_6.2, fun a k => (jτ8 a k).1, fun a k => (jτ8 a k).2]) <;> (first | omega | with_reducible assumption | (unfold rng; omega) | (unfold rng; (repeat' split) <;> omega) | decide)) (fun σ94 r95 rσ94 fc p9 => ?_)
                    have fσ94 : Fr ra jx rm [] [4, 5, 7, 8, 9, 10, 11, 12, 13] σ σ94 := Fr.tr (by refine Fr.sI g ?_ (by decide); refine Fr.sI g ?_ (by decide); exact fτ8) (Fr.mor (fc) (by decide) (by decide))
                    have eσ94_2 := fσ94.1 2 (by decide)
                    have sσ94_6 := fσ94.2.1 6 (by decide)
                    have jσ94 := fσ94.2.2.1
                    try simp only [forall_eq, rII, rIJ, rIP, rJJ, rJI, rJP, rPP, rPI, rPJ, g1, g2, g3, g4, g5, g6, g7, g8, Nat.reduceEqDiff, Nat.reduceAdd, false_and, and_false, true_and, and_true, reduceIte, nZ0, nZ1, eσ94_2.1, eσ94_2.2, sσ94_6.1, sσ94_6.2, fun a k => (jσ94 a k).1, fun a k => (jσ94 a k).2]
                    refine ⟨by first | assumption | simp, ?_⟩
                    refine hX _ _ ?_ ?_ ?_
                    · exact rσ94
                    · exact fσ94
                    · exact rfl
                  · rename_i hc334
                    skip
                    unfold w_X16_see_337
                    try simp only [forall_eq, rII, rIJ, rIP, rJJ, rJI, rJP, rPP, rPI, rPJ, g1, g2, g3, g4, g5, g6, g7, g8, Nat.reduceEqDiff, Nat.reduceAdd, false_and, and_false, true_and, and_true, reduceIte, nZ0, nZ1, eτ8_2.1, eτ8_2.2, sτ8_6.1, sτ8_6.2, fun a k => (jτ8 a k).1, fun a k => (jτ8 a k).2]
                    refine ⟨by (first | omega | with_reducible assumption | (unfold rng; omega) | (unfold rng; (repeat' split) <;> omega) | decide), ?_⟩
                    unfold w_X16_see_361
                    try simp only [forall_eq, rII, rIJ, rIP, rJJ, rJI, rJP, rPP, rPI, rPJ, g1, g2, g3, g4, g5, g6, g7, g8, Nat.reduceEqDiff, Nat.reduceAdd, false_and, and_false, true_and, and_true, reduceIte, nZ0, nZ1, eτ8_2.1, eτ8_2.2, sτ8_6.1, sτ8_6.2, fun a k => (jτ8 a k).1, fun a k => (jτ8 a k).2]
                    refine hQ _ _ ?_ ?_ ?_
                    · refine Rg.sI g ?_ (by simp only [rgS]; first | with_reducible exact nZ_rng _ | with_reducible exact nB_rng _ | with_reducible exact wr_rng _ | with_reducible exact i32any _ | (first | omega | with_reducible assumption | (unfold rng; omega) | (unfold rng; (repeat' split) <;> omega) | decide)); refine Rg.sI g ?_ (by simp only [rgS]; first | with_reducible exact nZ_rng _ | with_reducible exact nB_rng _ | with_reducible exact wr_rng _ | with_reducible exact i32any _ | (first | omega | with_reducible assumption | (unfold rng; omega) | (unfold rng; (repeat' split) <;> omega) | decide)); refine Rg.sI g ?_ (by simp only [rgS]; first | with_reducible exact nZ_rng _ | with_reducible exact nB_rng _ | with_reducible exact wr_rng _ | with_reducible exact i32any _ | (first | omega | with_reducible assumption | (unfold rng; omega) | (unfold rng; (repeat' split) <;> omega) | decide)); refine Rg.sI g ?_ (by simp only [rgS]; first | with_reducible exact nZ_rng _ | with_reducible exact nB_rng _ | with_reducible exact wr_rng _ | with_reducible exact i32any _ | (first | omega | with_reducible assumption | (unfold rng; omega) | (unfold rng; (repeat' split) <;> omega) | decide)); exact rτ8
                    · refine Fr.sI g ?_ (by decide); refine Fr.sI g ?_ (by decide); refine Fr.sI g ?_ (by decide); refine Fr.sI g ?_ (by decide); exact fτ8
                    · first | exact ⟨hps, Int.le_refl _, by omega⟩ | (unfold PsI cn; refine ⟨⟨?_, fun q => ⟨?_, fun q2 => ?_⟩⟩, ?_, ?_⟩ <;> first | ((try simp only [rII, rIJ, rIP, rJJ, rJI, rJP, rPP, rPI, rPJ, g1, g2, g3, g4, g5, g6, g7, g8, Nat.reduceEqDiff, Nat.reduceAdd, false_and, and_false, true_and, and_true, reduceIte, nZ0, nZ1, eτ8_2.1, eτ8_2.2, sτ8_6.1, sτ8_6.2, fun a k => (jτ8 a k).1, fun a k => (jτ8 a k).2]) <;> first | omega | (split <;> omega)) | (simp only [rII, rIJ, rIP, rJJ, rJI, rJP, rPP, rPI, rPJ, g1, g2, g3, g4, g5, g6, g7, g8, Nat.reduceEqDiff, Nat.reduceAdd, false_and, and_false, true_and, and_true, reduceIte, nZ0, nZ1, eτ8_2.1, eτ8_2.2, sτ8_6.1, sτ8_6.2, fun a k => (jτ8 a k).1, fun a k => (jτ8 a k).2] at q2; omega) | (exact absurd (by simp only [rII, rIJ, rIP, rJJ, rJI, rJP, rPP, rPI, rPJ, g1, g2, g3, g4, g5, g6, g7, g8, Nat.reduceEqDiff, Nat.reduceAdd, false_and, and_false, true_and, and_true, reduceIte, nZ0, nZ1, eτ8_2.1, eτ8_2.2, sτ8_6.1, sτ8_6.2, fun a k => (jτ8 a k).1, fun a k => (jτ8 a k).2]) q2))
              · rename_i hc216
                skip
                unfold w_X16_see_219
                try simp only [forall_eq, rII, rIJ, rIP, rJJ, rJI, rJP, rPP, rPI, rPJ, g1, g2, g3, g4, g5, g6, g7, g8, Nat.reduceEqDiff, Nat.reduceAdd, false_and, and_false, true_and, and_true, reduceIte, nZ0, nZ1, eτ8_2.1, eτ8_2.2, sτ8_6.1, sτ8_6.2, fun a k => (jτ8 a k).1, fun a k => (jτ8 a k).2]
                have wl9 := wl8 (by assumption)
                (try rw [pb9] at wl9)
                have L231 : ∀ (fu231 : Nat) (τ231 : Sg) (v2 : Int), Rg ra jx rm τ231 → Fr ra jx rm [] [4, 5, 7, 8, 9, 10, 11, 12, 13] σ τ231 → (gI τ231 rm 7 ≤ gI σ rm 6 ∧ gI τ8 rm 7 ≤ gI τ231 rm 7 ∧ gI τ231 rm 10 = gI τ8 rm 7 ∧ gI τ231 rm 8 = 1 ∧ gI τ231 rm 9 = 2 ∧ (gI τ231 rm 7 = gI τ8 rm 7 → (48 ≤ Int64.ofInt (bt (gI σ (ra 2) (gI τ8 rm 7).toNat)) ∧ Int64.ofInt (bt (gI σ (ra 2) (gI τ8 rm 7).toNat)) ≤ 57)) ∧ 0 ≤ v2 ∧ v2 ≤ gI τ231 rm 7) → ((gI σ rm 6 - gI τ231 rm 7).toNat) < fu231 → wl_X16_see_231 ra jx rm Q X fu231 τ231 v2 := by
                  intro fu231
                  induction fu231 with
                  | zero => intro τ231 _ _ _ _ h9; omega
                  | succ fu231 ih231 =>
                    intro τ231 v2 rτ231 fτ231 hi231 hm231
                    unfold wl_X16_see_231
                    have eτ231_2 := fτ231.1 2 (by decide)
                    have sτ231_6 := fτ231.2.1 6 (by decide)
                    have jτ231 := fτ231.2.2.1
                    unfold w_X16_see_231
                    try simp only [forall_eq, rII, rIJ, rIP, rJJ, rJI, rJP, rPP, rPI, rPJ, g1, g2, g3, g4, g5, g6, g7, g8, Nat.reduceEqDiff, Nat.reduceAdd, false_and, and_false, true_and, and_true, reduceIte, nZ0, nZ1, eτ231_2.1, eτ231_2.2, sτ231_6.1, sτ231_6.2, fun a k => (jτ231 a k).1, fun a k => (jτ231 a k).2]
                    obtain ⟨z1, z2, z3, z4, z5, z6, z7, z8⟩ := hi231
                    have q2316 := rσ.2.1 6; simp only [rgS] at q2316
                    have q2317 := rτ231.2.1 7; simp only [rgS] at q2317
                    have q10 := rτ231.2.1 7; simp only [rgS] at q10
                    split
                    · rename_i hc239
                      skip
                      unfold w_X16_see_305
                      try simp only [forall_eq, rII, rIJ, rIP, rJJ, rJI, rJP, rPP, rPI, rPJ, g1, g2, g3, g4, g5, g6, g7, g8, Nat.reduceEqDiff, Nat.reduceAdd, false_and, and_false, true_and, and_true, reduceIte, nZ0, nZ1, eτ231_2.1, eτ231_2.2, sτ231_6.1, sτ231_6.2, fun a k => (jτ231 a k).1, fun a k => (jτ231 a k).2]
                      split
                      · rename_i hc308
                        skip
                        unfold w_X16_see_317
                        try simp only [forall_eq, rII, rIJ, rIP, rJJ, rJI, rJP, rPP, rPI, rPJ, g1, g2, g3, g4, g5, g6, g7, g8, Nat.reduceEqDiff, Nat.reduceAdd, false_and, and_false, true_and, and_true, reduceIte, nZ0, nZ1, eτ231_2.1, eτ231_2.2, sτ231_6.1, sτ231_6.2, fun a k => (jτ231 a k).1, fun a k => (jτ231 a k).2]
                        unfold w_X16_see_361
                        try simp only [forall_eq, rII, rIJ, rIP, rJJ, rJI, rJP, rPP, rPI, rPJ, g1, g2, g3, g4, g5, g6, g7, g8, Nat.reduceEqDiff, Nat.reduceAdd, false_and, and_false, true_and, and_true, reduceIte, nZ0, nZ1, eτ231_2.1, eτ231_2.2, sτ231_6.1, sτ231_6.2, fun a k => (jτ231 a k).1, fun a k => (jτ231 a k).2]
                        refine hQ _ _ ?_ ?_ ?_
                        · exact rτ231
                        · exact fτ231
                        · first | exact ⟨hps, Int.le_refl _, by omega⟩ | (unfold PsI cn; refine ⟨⟨?_, fun q => ⟨?_, fun q2 => ?_⟩⟩, ?_, ?_⟩ <;> first | ((try simp only [rII, rIJ, rIP, rJJ, rJI, rJP, rPP, rPI, rPJ, g1, g2, g3, g4, g5, g6, g7, g8, Nat.reduceEqDiff, Nat.reduceAdd, false_and, and_false, true_and, and_true, reduceIte, nZ0, nZ1, eτ231_2.1, eτ231_2.2, sτ231_6.1, sτ231_6.2, fun a k => (jτ231 a k).1, fun a k => (jτ231 a k).2]) <;> first | omega | (split <;> omega)) | (simp only [rII, rIJ, rIP, rJJ, rJI, rJP, rPP, rPI, rPJ, g1, g2, g3, g4, g5, g6, g7, g8, Nat.reduceEqDiff, Nat.reduceAdd, false_and, and_false, true_and, and_true, reduceIte, nZ0, nZ1, eτ231_2.1, eτ231_2.2, sτ231_6.1, sτ231_6.2, fun a k => (jτ231 a k).1, fun a k => (jτ231 a k).2] at q2; omega) | (exact absurd (by simp only [rII, rIJ, rIP, rJJ, rJI, rJP, rPP, rPI, rPJ, g1, g2, g3, g4, g5, g6, g7, g8, Nat.reduceEqDiff, Nat.reduceAdd, false_and, and_false, true_and, and_true, reduceIte, nZ0, nZ1, eτ231_2.1, eτ231_2.2, sτ231_6.1, sτ231_6.2, fun a k => (jτ231 a k).1, fun a k => (jτ231 a k).2]) q2))
                      · rename_i hc308
                        skip
                        unfold w_X16_see_311
                        try simp only [forall_eq, rII, rIJ, rIP, rJJ, rJI, rJP, rPP, rPI, rPJ, g1, g2, g3, g4, g5, g6, g7, g8, Nat.reduceEqDiff, Nat.reduceAdd, false_and, and_false, true_and, and_true, reduceIte, nZ0, nZ1, eτ231_2.1, eτ231_2.2, sτ231_6.1, sτ231_6.2, fun a k => (jτ231 a k).1, fun a k => (jτ231 a k).2]
                        refine s_X16_fail g rτ231 (by (try simp only [rII, rIJ, rIP, rJJ, rJI, rJP, rPP, rPI, rPJ, g1, g2, g3, g4, g5, g6, g7, g8, Nat.reduceEqDiff, Nat.reduceAdd, false_and, and_false, true_and, and_true, reduceIte, nZ0, nZ1, eτ231_2.1, eτ231_2.2, sτ231_6.1, sτ231_6.2, fun a k => (jτ231 a k).1, fun a k => (jτ231 a k).2]) <;> (first | omega | with_reducible assumption | (unfold rng; omega) | (unfold rng; (repeat' split) <;> omega) | decide)) (fun σ100 r101 rσ100 fc p11 => ?_)
                        have fσ100 : Fr ra jx rm [] [4, 5, 7, 8, 9, 10, 11, 12, 13] σ σ100 := Fr.tr fτ231 (Fr.mor (fc) (by decide) (by decide))
                        have eσ100_2 := fσ100.1 2 (by decide)
                        have sσ100_6 := fσ100.2.1 6 (by decide)
                        have jσ100 := fσ100.2.2.1
                        try simp only [forall_eq, rII, rIJ, rIP, rJJ, rJI, rJP, rPP, rPI, rPJ, g1, g2, g3, g4, g5, g6, g7, g8, Nat.reduceEqDiff, Nat.reduceAdd, false_and, and_false, true_and, and_true, reduceIte, nZ0, nZ1, eσ100_2.1, eσ100_2.2, sσ100_6.1, sσ100_6.2, fun a k => (jσ100 a k).1, fun a k => (jσ100 a k).2]
                        refine ⟨by first | assumption | simp, ?_⟩
                        refine hX _ _ ?_ ?_ ?_
                        · exact rσ100
                        · exact fσ100
                        · exact rfl
                    · rename_i hc239
                      skip
                      unfold w_X16_see_242
                      try simp only [forall_eq, rII, rIJ, rIP, rJJ, rJI, rJP, rPP, rPI, rPJ, g1, g2, g3, g4, g5, g6, g7, g8, Nat.reduceEqDiff, Nat.reduceAdd, false_and, and_false, true_and, and_true, reduceIte, nZ0, nZ1, eτ231_2.1, eτ231_2.2, sτ231_6.1, sτ231_6.2, fun a k => (jτ231 a k).1, fun a k => (jτ231 a k).2]
                      refine s2_X16_byteAt g rτ231 (by (try simp only [rII, rIJ, rIP, rJJ, rJI, rJP, rPP, rPI, rPJ, g1, g2, g3, g4, g5, g6, g7, g8, Nat.reduceEqDiff, Nat.reduceAdd, false_and, and_false, true_and, and_true, reduceIte, nZ0, nZ1, eτ231_2.1, eτ231_2.2, sτ231_6.1, sτ231_6.2, fun a k => (jτ231 a k).1, fun a k => (jτ231 a k).2]) <;> (first | omega | with_reducible assumption | (unfold rng; omega) | (unfold rng; (repeat' split) <;> omega) | decide)) (fun r103 p12 => ?_)
                      try simp only [forall_eq, rII, rIJ, rIP, rJJ, rJI, rJP, rPP, rPI, rPJ, g1, g2, g3, g4, g5, g6, g7, g8, Nat.reduceEqDiff, Nat.reduceAdd, false_and, and_false, true_and, and_true, reduceIte, nZ0, nZ1, eτ231_2.1, eτ231_2.2, sτ231_6.1, sτ231_6.2, fun a k => (jτ231 a k).1, fun a k => (jτ231 a k).2]
                      have pb9 := p12.1
                      have pb8 := p12.2
                      (try simp only [rII, rIJ, rIP, rJJ, rJI, rJP, rPP, rPI, rPJ, g1, g2, g3, g4, g5, g6, g7, g8, Nat.reduceEqDiff, Nat.reduceAdd, false_and, and_false, true_and, and_true, reduceIte, nZ0, nZ1, eτ231_2.1, eτ231_2.2, sτ231_6.1, sτ231_6.2, fun a k => (jτ231 a k).1, fun a k => (jτ231 a k).2] at pb9)
                      refine s2_X16_within g rτ231 (fun r105 p13 => ?_)
                      try simp only [forall_eq, rII, rIJ, rIP, rJJ, rJI, rJP, rPP, rPI, rPJ, g1, g2, g3, g4, g5, g6, g7, g8, Nat.reduceEqDiff, Nat.reduceAdd, false_and, and_false, true_and, and_true, reduceIte, nZ0, nZ1, eτ231_2.1, eτ231_2.2, sτ231_6.1, sτ231_6.2, fun a k => (jτ231 a k).1, fun a k => (jτ231 a k).2]
                      have le9 : gI τ231 rm 7 = gI τ8 rm 7 → r105 = 1 := fun q => by have l := z6 q; rw [← q, ← pb9] at l; rcases p13 with z | z; exact z.1; exact absurd l z.2
                      have r01 : r105 = 0 ∨ r105 = 1 := p13.elim (fun z => Or.inr z.1) (fun z => Or.inl z.1)
                      clear z6 p13
                      split
                      · rename_i hc260
                        skip
                        unfold w_X16_see_305
                        try simp only [forall_eq, rII, rIJ, rIP, rJJ, rJI, rJP, rPP, rPI, rPJ, g1, g2, g3, g4, g5, g6, g7, g8, Nat.reduceEqDiff, Nat.reduceAdd, false_and, and_false, true_and, and_true, reduceIte, nZ0, nZ1, eτ231_2.1, eτ231_2.2, sτ231_6.1, sτ231_6.2, fun a k => (jτ231 a k).1, fun a k => (jτ231 a k).2]
                        split
                        · rename_i hc308
                          skip
                          unfold w_X16_see_317
                          try simp only [forall_eq, rII, rIJ, rIP, rJJ, rJI, rJP, rPP, rPI, rPJ, g1, g2, g3, g4, g5, g6, g7, g8, Nat.reduceEqDiff, Nat.reduceAdd, false_and, and_false, true_and, and_true, reduceIte, nZ0, nZ1, eτ231_2.1, eτ231_2.2, sτ231_6.1, sτ231_6.2, fun a k => (jτ231 a k).1, fun a k => (jτ231 a k).2]
                          unfold w_X16_see_361
                          try simp only [forall_eq, rII, rIJ, rIP, rJJ, rJI, rJP, rPP, rPI, rPJ, g1, g2, g3, g4, g5, g6, g7, g8, Nat.reduceEqDiff, Nat.reduceAdd, false_and, and_false, true_and, and_true, reduceIte, nZ0, nZ1, eτ231_2.1, eτ231_2.2, sτ231_6.1, sτ231_6.2, fun a k => (jτ231 a k).1, fun a k => (jτ231 a k).2]
                          refine hQ _ _ ?_ ?_ ?_
                          · exact rτ231
                          · exact fτ231
                          · first | exact ⟨hps, Int.le_refl _, by omega⟩ | (unfold PsI cn; refine ⟨⟨?_, fun q => ⟨?_, fun q2 => ?_⟩⟩, ?_, ?_⟩ <;> first | ((try simp only [rII, rIJ, rIP, rJJ, rJI, rJP, rPP, rPI, rPJ, g1, g2, g3, g4, g5, g6, g7, g8, Nat.reduceEqDiff, Nat.reduceAdd, false_and, and_false, true_and, and_true, reduceIte, nZ0, nZ1, eτ231_2.1, eτ231_2.2, sτ231_6.1, sτ231_6.2, fun a k => (jτ231 a k).1, fun a k => (jτ231 a k).2]) <;> first | omega | (split <;> omega)) | (simp only [rII, rIJ, rIP, rJJ, rJI, rJP, rPP, rPI, rPJ, g1, g2, g3, g4, g5, g6, g7, g8, Nat.reduceEqDiff, Nat.reduceAdd, false_and, and_false, true_and, and_true, reduceIte, nZ0, nZ1, eτ231_2.1, eτ231_2.2, sτ231_6.1, sτ231_6.2, fun a k => (jτ231 a k).1, fun a k => (jτ231 a k).2] at q2; omega) | (exact absurd (by simp only [rII, rIJ, rIP, rJJ, rJI, rJP, rPP, rPI, rPJ, g1, g2, g3, g4, g5, g6, g7, g8, Nat.reduceEqDiff, Nat.reduceAdd, false_and, and_false, true_and, and_true, reduceIte, nZ0, nZ1, eτ231_2.1, eτ231_2.2, sτ231_6.1, sτ231_6.2, fun a k => (jτ231 a k).1, fun a k => (jτ231 a k).2]) q2))
                        · rename_i hc308
                          skip
                          unfold w_X16_see_311
                          try simp only [forall_eq, rII, rIJ, rIP, rJJ, rJI, rJP, rPP, rPI, rPJ, g1, g2, g3, g4, g5, g6, g7, g8, Nat.reduceEqDiff, Nat.reduceAdd, false_and, and_false, true_and, and_true, reduceIte, nZ0, nZ1, eτ231_2.1, eτ231_2.2, sτ231_6.1, sτ231_6.2, fun a k => (jτ231 a k).1, fun a k => (jτ231 a k).2]
                          refine s_X16_fail g rτ231 (by (try simp only [rII, rIJ, rIP, rJJ, rJI, rJP, rPP, rPI, rPJ, g1, g2, g3, g4, g5, g6, g7, g8, Nat.reduceEqDiff, Nat.reduceAdd, false_and, and_false, true_and, and_true, reduceIte, nZ0, nZ1, eτ231_2.1, eτ231_2.2, sτ231_6.1, sτ231_6.2, fun a k => (jτ231 a k).1, fun a k => (jτ231 a k).2]) <;> (first | omega | with_reducible assumption | (unfold rng; omega) | (unfold rng; (repeat' split) <;> omega) | decide)) (fun σ106 r107 rσ106 fc p14 => ?_)
                          have fσ106 : Fr ra jx rm [] [4, 5, 7, 8, 9, 10, 11, 12, 13] σ σ106 := Fr.tr fτ231 (Fr.mor (fc) (by decide) (by decide))
                          have eσ106_2 := fσ106.1 2 (by decide)
                          have sσ106_6 := fσ106.2.1 6 (by decide)
                          have jσ106 := fσ106.2.2.1
                          try simp only [forall_eq, rII, rIJ, rIP, rJJ, rJI, rJP, rPP, rPI, rPJ, g1, g2, g3, g4, g5, g6, g7, g8, Nat.reduceEqDiff, Nat.reduceAdd, false_and, and_false, true_and, and_true, reduceIte, nZ0, nZ1, eσ106_2.1, eσ106_2.2, sσ106_6.1, sσ106_6.2, fun a k => (jσ106 a k).1, fun a k => (jσ106 a k).2]
                          refine ⟨by first | assumption | simp, ?_⟩
                          refine hX _ _ ?_ ?_ ?_
                          · exact rσ106
                          · exact fσ106
                          · exact rfl
                      · rename_i hc260
                        skip
                        unfold w_X16_see_263
                        try simp only [forall_eq, rII, rIJ, rIP, rJJ, rJI, rJP, rPP, rPI, rPJ, g1, g2, g3, g4, g5, g6, g7, g8, Nat.reduceEqDiff, Nat.reduceAdd, false_and, and_false, true_and, and_true, reduceIte, nZ0, nZ1, eτ231_2.1, eτ231_2.2, sτ231_6.1, sτ231_6.2, fun a k => (jτ231 a k).1, fun a k => (jτ231 a k).2]
                        refine s2_X16_byteAt g rτ231 (by (try simp only [rII, rIJ, rIP, rJJ, rJI, rJP, rPP, rPI, rPJ, g1, g2, g3, g4, g5, g6, g7, g8, Nat.reduceEqDiff, Nat.reduceAdd, false_and, and_false, true_and, and_true, reduceIte, nZ0, nZ1, eτ231_2.1, eτ231_2.2, sτ231_6.1, sτ231_6.2, fun a k => (jτ231 a k).1, fun a k => (jτ231 a k).2]) <;> (first | omega | with_reducible assumption | (unfold rng; omega) | (unfold rng; (repeat' split) <;> omega) | decide)) (fun r109 p15 => ?_)
                        try simp only [forall_eq, rII, rIJ, rIP, rJJ, rJI, rJP, rPP, rPI, rPJ, g1, g2, g3, g4, g5, g6, g7, g8, Nat.reduceEqDiff, Nat.reduceAdd, false_and, and_false, true_and, and_true, reduceIte, nZ0, nZ1, eτ231_2.1, eτ231_2.2, sτ231_6.1, sτ231_6.2, fun a k => (jτ231 a k).1, fun a k => (jτ231 a k).2]
                        have pb9 := p15.1
                        have pb8 := p15.2
                        (try simp only [rII, rIJ, rIP, rJJ, rJI, rJP, rPP, rPI, rPJ, g1, g2, g3, g4, g5, g6, g7, g8, Nat.reduceEqDiff, Nat.reduceAdd, false_and, and_false, true_and, and_true, reduceIte, nZ0, nZ1, eτ231_2.1, eτ231_2.2, sτ231_6.1, sτ231_6.2, fun a k => (jτ231 a k).1, fun a k => (jτ231 a k).2] at pb9)
                        refine ⟨by (first | omega | with_reducible assumption | (unfold rng; omega) | (unfold rng; (repeat' split) <;> omega) | decide), ?_⟩
                        refine ⟨by (first | omega | with_reducible assumption | (unfold rng; omega) | (unfold rng; (repeat' split) <;> omega) | decide), ?_⟩
                        refine ih231 _ _ ?_ ?_ ?_ ?_
                        · refine Rg.sI g ?_ (by simp only [rgS]; first | with_reducible exact nZ_rng _ | with_reducible exact nB_rng _ | with_reducible exact wr_rng _ | with_reducible exact i32any _ | (first | omega | with_reducible assumption | (unfold rng; omega) | (unfold rng; (repeat' split) <;> omega) | decide)); refine Rg.sJ g ?_; exact rτ231
                        · refine Fr.sI g ?_ (by decide); refine Fr.sJ g ?_ (by decide); exact fτ231
                        · first | exact ⟨by (try simp only [rII, rIJ, rIP, rJJ, rJI, rJP, rPP, rPI, rPJ, g1, g2, g3, g4, g5, g6, g7, g8, Nat.reduceEqDiff, Nat.reduceAdd, false_and, and_false, true_and, and_true, reduceIte, nZ0, nZ1, eτ231_2.1, eτ231_2.2, sτ231_6.1, sτ231_6.2, fun a k => (jτ231 a k).1, fun a k => (jτ231 a k).2]) <;> omega, by (try simp only [rII, rIJ, rIP, rJJ, rJI, rJP, rPP, rPI, rPJ, g1, g2, g3, g4, g5, g6, g7, g8, Nat.reduceEqDiff, Nat.reduceAdd, false_and, and_false, true_and, and_true, reduceIte, nZ0, nZ1, eτ231_2.1, eτ231_2.2, sτ231_6.1, sτ231_6.2, fun a k => (jτ231 a k).1, fun a k => (jτ231 a k).2]) <;> omega, by (try simp only [rII, rIJ, rIP, rJJ, rJI, rJP, rPP, rPI, rPJ, g1, g2, g3, g4, g5, g6, g7, g8, Nat.reduceEqDiff, Nat.reduceAdd, false_and, and_false, true_and, and_true, reduceIte, nZ0, nZ1, eτ231_2.1, eτ231_2.2, sτ231_6.1, sτ231_6.2, fun a k => (jτ231 a k).1, fun a k => (jτ231 a k).2]) <;> omega, by (try simp only [rII, rIJ, rIP, rJJ, rJI, rJP, rPP, rPI, rPJ, g1, g2, g3, g4, g5, g6, g7, g8, Nat.reduceEqDiff, Nat.reduceAdd, false_and, and_false, true_and, and_true, reduceIte, nZ0, nZ1, eτ231_2.1, eτ231_2.2, sτ231_6.1, sτ231_6.2, fun a k => (jτ231 a k).1, fun a k => (jτ231 a k).2]) <;> omega, by (try simp only [rII, rIJ, rIP, rJJ, rJI, rJP, rPP, rPI, rPJ, g1, g2, g3, g4, g5, g6, g7, g8, Nat.reduceEqDiff, Nat.reduceAdd, false_and, and_false, true_and, and_true, reduceIte, nZ0, nZ1, eτ231_2.1, eτ231_2.2, sτ231_6.1, sτ231_6.2, fun a k => (jτ231 a k).1, fun a k => (jτ231 a k).2]) <;> omega, fun _ => wl9, by (try simp only [rII, rIJ, rIP, rJJ, rJI, rJP, rPP, rPI, rPJ, g1, g2, g3, g4, g5, g6, g7, g8, Nat.reduceEqDiff, Nat.reduceAdd, false_and, and_false, true_and, and_true, reduceIte, nZ0, nZ1, eτ231_2.1, eτ231_2.2, sτ231_6.1, sτ231_6.2, fun a k => (jτ231 a k).1, fun a k => (jτ231 a k).2]) <;> omega, by (try simp only [rII, rIJ, rIP, rJJ, rJI, rJP, rPP, rPI, rPJ, g1, g2, g3, g4, g5, g6, g7, g8, Nat.reduceEqDiff, Nat.reduceAdd, false_and, and_false, true_and, and_true, reduceIte, nZ0, nZ1, eτ231_2.1, eτ231_2.2, sτ231_6.1, sτ231_6.2, fun a k => (jτ231 a k).1, fun a k => (jτ231 a k).2]) <;> omega⟩ | exact ⟨by (try simp only [rII, rIJ, rIP, rJJ, rJI, rJP, rPP, rPI, rPJ, g1, g2, g3, g4, g5, g6, g7, g8, Nat.reduceEqDiff, Nat.reduceAdd, false_and, and_false, true_and, and_true, reduceIte, nZ0, nZ1, eτ231_2.1, eτ231_2.2, sτ231_6.1, sτ231_6.2, fun a k => (jτ231 a k).1, fun a k => (jτ231 a k).2]) <;> omega, by (try simp only [rII, rIJ, rIP, rJJ, rJI, rJP, rPP, rPI, rPJ, g1, g2, g3, g4, g5, g6, g7, g8, Nat.reduceEqDiff, Nat.reduceAdd, false_and, and_false, true_and, and_true, reduceIte, nZ0, nZ1, eτ231_2.1, eτ231_2.2, sτ231_6.1, sτ231_6.2, fun a k => (jτ231 a k).1, fun a k => (jτ231 a k).2]) <;> omega, by (try simp only [rII, rIJ, rIP, rJJ, rJI, rJP, rPP, rPI, rPJ, g1, g2, g3, g4, g5, g6, g7, g8, Nat.reduceEqDiff, Nat.reduceAdd, false_and, and_false, true_and, and_true, reduceIte, nZ0, nZ1, eτ231_2.1, eτ231_2.2, sτ231_6.1, sτ231_6.2, fun a k => (jτ231 a k).1, fun a k => (jτ231 a k).2]) <;> omega, by (try simp only [rII, rIJ, rIP, rJJ, rJI, rJP, rPP, rPI, rPJ, g1, g2, g3, g4, g5, g6, g7, g8, Nat.reduceEqDiff, Nat.reduceAdd, false_and, and_false, true_and, and_true, reduceIte, nZ0, nZ1, eτ231_2.1, eτ231_2.2, sτ231_6.1, sτ231_6.2, fun a k => (jτ231 a k).1, fun a k => (jτ231 a k).2]) <;> omega, by (try simp only [rII, rIJ, rIP, rJJ, rJI, rJP, rPP, rPI, rPJ, g1, g2, g3, g4, g5, g6, g7, g8, Nat.reduceEqDiff, Nat.reduceAdd, false_and, and_false, true_and, and_true, reduceIte, nZ0, nZ1, eτ231_2.1, eτ231_2.2, sτ231_6.1, sτ231_6.2, fun a k => (jτ231 a k).1, fun a k => (jτ231 a k).2]) <;> omega, fun q => absurd q (by (try simp only [rII, rIJ, rIP, rJJ, rJI, rJP, rPP, rPI, rPJ, g1, g2, g3, g4, g5, g6, g7, g8, Nat.reduceEqDiff, Nat.reduceAdd, false_and, and_false, true_and, and_true, reduceIte, nZ0, nZ1, eτ231_2.1, eτ231_2.2, sτ231_6.1, sτ231_6.2, fun a k => (jτ231 a k).1, fun a k => (jτ231 a k).2]) <;> omega), by (try simp only [rII, rIJ, rIP, rJJ, rJI, rJP, rPP, rPI, rPJ, g1, g2, g3, g4, g5, g6, g7, g8, Nat.reduceEqDiff, Nat.reduceAdd, false_and, and_false, true_and, and_true, reduceIte, nZ0, nZ1, eτ231_2.1, eτ231_2.2, sτ231_6.1, sτ231_6.2, fun a k => (jτ231 a k).1, fun a k => (jτ231 a k).2]) <;> omega, by (try simp only [rII, rIJ, rIP, rJJ, rJI, rJP, rPP, rPI, rPJ, g1, g2, g3, g4, g5, g6, g7, g8, Nat.reduceEqDiff, Nat.reduceAdd, false_and, and_false, true_and, and_true, reduceIte, nZ0, nZ1, eτ231_2.1, eτ231_2.2, sτ231_6.1, sτ231_6.2, fun a k => (jτ231 a k).1, fun a k => (jτ231 a k).2]) <;> omega⟩
                        · (try simp only [rII, rIJ, rIP, rJJ, rJI, rJP, rPP, rPI, rPJ, g1, g2, g3, g4, g5, g6, g7, g8, Nat.reduceEqDiff, Nat.reduceAdd, false_and, and_false, true_and, and_true, reduceIte, nZ0, nZ1, eτ231_2.1, eτ231_2.2, sτ231_6.1, sτ231_6.2, fun a k => (jτ231 a k).1, fun a k => (jτ231 a k).2]) <;> (first | omega | with_reducible assumption | (unfold rng; omega) | (unfold rng; (repeat' split) <;> omega) | decide)
                refine ⟨_, L231 _ _ _ ?_ ?_ ?_ (Nat.lt_succ_self _)⟩
                · refine Rg.sJ g ?_; refine Rg.sI g ?_ (by simp only [rgS]; first | with_reducible exact nZ_rng _ | with_reducible exact nB_rng _ | with_reducible exact wr_rng _ | with_reducible exact i32any _ | (first | omega | with_reducible assumption | (unfold rng; omega) | (unfold rng; (repeat' split) <;> omega) | decide)); refine Rg.sI g ?_ (by simp only [rgS]; first | with_reducible exact nZ_rng _ | with_reducible exact nB_rng _ | with_reducible exact wr_rng _ | with_reducible exact i32any _ | (first | omega | with_reducible assumption | (unfold rng; omega) | (unfold rng; (repeat' split) <;> omega) | decide)); refine Rg.sI g ?_ (by simp only [rgS]; first | with_reducible exact nZ_rng _ | with_reducible exact nB_rng _ | with_reducible exact wr_rng _ | with_reducible exact i32any _ | (first | omega | with_reducible assumption | (unfold rng; omega) | (unfold rng; (repeat' split) <;> omega) | decide)); exact rτ8
                · refine Fr.sJ g ?_ (by decide); refine Fr.sI g ?_ (by decide); refine Fr.sI g ?_ (by decide); refine Fr.sI g ?_ (by decide); exact fτ8
                · first | exact ⟨by (try simp only [rII, rIJ, rIP, rJJ, rJI, rJP, rPP, rPI, rPJ, g1, g2, g3, g4, g5, g6, g7, g8, Nat.reduceEqDiff, Nat.reduceAdd, false_and, and_false, true_and, and_true, reduceIte, nZ0, nZ1, eτ8_2.1, eτ8_2.2, sτ8_6.1, sτ8_6.2, fun a k => (jτ8 a k).1, fun a k => (jτ8 a k).2]) <;> omega, by (try simp only [rII, rIJ, rIP, rJJ, rJI, rJP, rPP, rPI, rPJ, g1, g2, g3, g4, g5, g6, g7, g8, Nat.reduceEqDiff, Nat.reduceAdd, false_and, and_false, true_and, and_true, reduceIte, nZ0, nZ1, eτ8_2.1, eτ8_2.2, sτ8_6.1, sτ8_6.2, fun a k => (jτ8 a k).1, fun a k => (jτ8 a k).2]) <;> omega, by (try simp only [rII, rIJ, rIP, rJJ, rJI, rJP, rPP, rPI, rPJ, g1, g2, g3, g4, g5, g6, g7, g8, Nat.reduceEqDiff, Nat.reduceAdd, false_and, and_false, true_and, and_true, reduceIte, nZ0, nZ1, eτ8_2.1, eτ8_2.2, sτ8_6.1, sτ8_6.2, fun a k => (jτ8 a k).1, fun a k => (jτ8 a k).2]) <;> omega, by (try simp only [rII, rIJ, rIP, rJJ, rJI, rJP, rPP, rPI, rPJ, g1, g2, g3, g4, g5, g6, g7, g8, Nat.reduceEqDiff, Nat.reduceAdd, false_and, and_false, true_and, and_true, reduceIte, nZ0, nZ1, eτ8_2.1, eτ8_2.2, sτ8_6.1, sτ8_6.2, fun a k => (jτ8 a k).1, fun a k => (jτ8 a k).2]) <;> omega, by (try simp only [rII, rIJ, rIP, rJJ, rJI, rJP, rPP, rPI, rPJ, g1, g2, g3, g4, g5, g6, g7, g8, Nat.reduceEqDiff, Nat.reduceAdd, false_and, and_false, true_and, and_true, reduceIte, nZ0, nZ1, eτ8_2.1, eτ8_2.2, sτ8_6.1, sτ8_6.2, fun a k => (jτ8 a k).1, fun a k => (jτ8 a k).2]) <;> omega, fun _ => wl9, by (try simp only [rII, rIJ, rIP, rJJ, rJI, rJP, rPP, rPI, rPJ, g1, g2, g3, g4, g5, g6, g7, g8, Nat.reduceEqDiff, Nat.reduceAdd, false_and, and_false, true_and, and_true, reduceIte, nZ0, nZ1, eτ8_2.1, eτ8_2.2, sτ8_6.1, sτ8_6.2, fun a k => (jτ8 a k).1, fun a k => (jτ8 a k).2]) <;> omega, by (try simp only [rII, rIJ, rIP, rJJ, rJI, rJP, rPP, rPI, rPJ, g1, g2, g3, g4, g5, g6, g7, g8, Nat.reduceEqDiff, Nat.reduceAdd, false_and, and_false, true_and, and_true, reduceIte, nZ0, nZ1, eτ8_2.1, eτ8_2.2, sτ8_6.1, sτ8_6.2, fun a k => (jτ8 a k).1, fun a k => (jτ8 a k).2]) <;> omega⟩ | exact ⟨by (try simp only [rII, rIJ, rIP, rJJ, rJI, rJP, rPP, rPI, rPJ, g1, g2, g3, g4, g5, g6, g7, g8, Nat.reduceEqDiff, Nat.reduceAdd, false_and, and_false, true_and, and_true, reduceIte, nZ0, nZ1, eτ8_2.1, eτ8_2.2, sτ8_6.1, sτ8_6.2, fun a k => (jτ8 a k).1, fun a k => (jτ8 a k).2]) <;> omega, by (try simp only [rII, rIJ, rIP, rJJ, rJI, rJP, rPP, rPI, rPJ, g1, g2, g3, g4, g5, g6, g7, g8, Nat.reduceEqDiff, Nat.reduceAdd, false_and, and_false, true_and, and_true, reduceIte, nZ0, nZ1, eτ8_2.1, eτ8_2.2, sτ8_6.1, sτ8_6.2, fun a k => (jτ8 a k).1, fun a k => (jτ8 a k).2]) <;> omega, by (try simp only [rII, rIJ, rIP, rJJ, rJI, rJP, rPP, rPI, rPJ, g1, g2, g3, g4, g5, g6, g7, g8, Nat.reduceEqDiff, Nat.reduceAdd, false_and, and_false, true_and, and_true, reduceIte, nZ0, nZ1, eτ8_2.1, eτ8_2.2, sτ8_6.1, sτ8_6.2, fun a k => (jτ8 a k).1, fun a k => (jτ8 a k).2]) <;> omega, by (try simp only [rII, rIJ, rIP, rJJ, rJI, rJP, rPP, rPI, rPJ, g1, g2, g3, g4, g5, g6, g7, g8, Nat.reduceEqDiff, Nat.reduceAdd, false_and, and_false, true_and, and_true, reduceIte, nZ0, nZ1, eτ8_2.1, eτ8_2.2, sτ8_6.1, sτ8_6.2, fun a k => (jτ8 a k).1, fun a k => (jτ8 a k).2]) <;> omega, by (try simp only [rII, rIJ, rIP, rJJ, rJI, rJP, rPP, rPI, rPJ, g1, g2, g3, g4, g5, g6, g7, g8, Nat.reduceEqDiff, Nat.reduceAdd, false_and, and_false, true_and, and_true, reduceIte, nZ0, nZ1, eτ8_2.1, eτ8_2.2, sτ8_6.1, sτ8_6.2, fun a k => (jτ8 a k).1, fun a k => (jτ8 a k).2]) <;> omega, fun q => absurd q (by (try simp only [rII, rIJ, rIP, rJJ, rJI, rJP, rPP, rPI, rPJ, g1, g2, g3, g4, g5, g6, g7, g8, Nat.reduceEqDiff, Nat.reduceAdd, false_and, and_false, true_and, and_true, reduceIte, nZ0, nZ1, eτ8_2.1, eτ8_2.2, sτ8_6.1, sτ8_6.2, fun a k => (jτ8 a k).1, fun a k => (jτ8 a k).2]) <;> omega), by (try simp only [rII, rIJ, rIP, rJJ, rJI, rJP, rPP, rPI, rPJ, g1, g2, g3, g4, g5, g6, g7, g8, Nat.reduceEqDiff, Nat.reduceAdd, false_and, and_false, true_and, and_true, reduceIte, nZ0, nZ1, eτ8_2.1, eτ8_2.2, sτ8_6.1, sτ8_6.2, fun a k => (jτ8 a k).1, fun a k => (jτ8 a k).2]) <;> omega, by (try simp only [rII, rIJ, rIP, rJJ, rJI, rJP, rPP, rPI, rPJ, g1, g2, g3, g4, g5, g6, g7, g8, Nat.reduceEqDiff, Nat.reduceAdd, false_and, and_false, true_and, and_true, reduceIte, nZ0, nZ1, eτ8_2.1, eτ8_2.2, sτ8_6.1, sτ8_6.2, fun a k => (jτ8 a k).1, fun a k => (jτ8 a k).2]) <;> omega⟩
            · rename_i hc95
              skip
              unfold w_X16_see_98
              try simp only [forall_eq, rII, rIJ, rIP, rJJ, rJI, rJP, rPP, rPI, rPJ, g1, g2, g3, g4, g5, g6, g7, g8, Nat.reduceEqDiff, Nat.reduceAdd, false_and, and_false, true_and, and_true, reduceIte, nZ0, nZ1, eτ8_2.1, eτ8_2.2, sτ8_6.1, sτ8_6.2, fun a k => (jτ8 a k).1, fun a k => (jτ8 a k).2]
              have wl9 := wl8 (by assumption)
              (try rw [pb9] at wl9)
              have L113 : ∀ (fu113 : Nat) (τ113 : Sg), Rg ra jx rm τ113 → Fr ra jx rm [] [4, 5, 7, 8, 9, 10, 11, 12, 13] σ τ113 → (gI τ113 rm 7 ≤ gI σ rm 6 ∧ gI τ8 rm 7 ≤ gI τ113 rm 7 ∧ gI τ113 rm 10 = gI τ8 rm 7 ∧ gI τ113 rm 8 = 1 ∧ gI τ113 rm 9 = 1 ∧ (gI τ113 rm 7 = gI τ8 rm 7 → (97 ≤ Int64.ofInt (bt (gI σ (ra 2) (gI τ8 rm 7).toNat)) ∧ Int64.ofInt (bt (gI σ (ra 2) (gI τ8 rm 7).toNat)) ≤ 122)) ∧ 0 ≤ gI τ113 rm 12 ∧ gI τ113 rm 12 ≤ gI τ113 rm 7) → ((gI σ rm 6 - gI τ113 rm 7).toNat) < fu113 → wl_X16_see_113 ra jx rm Q X fu113 τ113 := by
                intro fu113
                induction fu113 with
                | zero => intro τ113 _ _ _ h9; omega
                | succ fu113 ih113 =>
                  intro τ113 rτ113 fτ113 hi113 hm113
                  unfold wl_X16_see_113
                  have eτ113_2 := fτ113.1 2 (by decide)
                  have sτ113_6 := fτ113.2.1 6 (by decide)
                  have jτ113 := fτ113.2.2.1
                  unfold w_X16_see_113
                  try simp only [forall_eq, rII, rIJ, rIP, rJJ, rJI, rJP, rPP, rPI, rPJ, g1, g2, g3, g4, g5, g6, g7, g8, Nat.reduceEqDiff, Nat.reduceAdd, false_and, and_false, true_and, and_true, reduceIte, nZ0, nZ1, eτ113_2.1, eτ113_2.2, sτ113_6.1, sτ113_6.2, fun a k => (jτ113 a k).1, fun a k => (jτ113 a k).2]
                  obtain ⟨z1, z2, z3, z4, z5, z6, z7, z8⟩ := hi113
                  have q1136 := rσ.2.1 6; simp only [rgS] at q1136
                  have q1137 := rτ113.2.1 7; simp only [rgS] at q1137
                  have q16 := rτ113.2.1 7; simp only [rgS] at q16
                  split
                  · rename_i hc121
                    skip
                    unfold w_X16_see_361
                    try simp only [forall_eq, rII, rIJ, rIP, rJJ, rJI, rJP, rPP, rPI, rPJ, g1, g2, g3, g4, g5, g6, g7, g8, Nat.reduceEqDiff, Nat.reduceAdd, false_and, and_false, true_and, and_true, reduceIte, nZ0, nZ1, eτ113_2.1, eτ113_2.2, sτ113_6.1, sτ113_6.2, fun a k => (jτ113 a k).1, fun a k => (jτ113 a k).2]
                    refine hQ _ _ ?_ ?_ ?_
                    · exact rτ113
                    · exact fτ113
                    · first | exact ⟨hps, Int.le_refl _, by omega⟩ | (unfold PsI cn; refine ⟨⟨?_, fun q => ⟨?_, fun q2 => ?_⟩⟩, ?_, ?_⟩ <;> first | ((try simp only [rII, rIJ, rIP, rJJ, rJI, rJP, rPP, rPI, rPJ, g1, g2, g3, g4, g5, g6, g7, g8, Nat.reduceEqDiff, Nat.reduceAdd, false_and, and_false, true_and, and_true, reduceIte, nZ0, nZ1, eτ113_2.1, eτ113_2.2, sτ113_6.1, sτ113_6.2, fun a k => (jτ113 a k).1, fun a k => (jτ113 a k).2]) <;> first | omega | (split <;> omega)) | (simp only [rII, rIJ, rIP, rJJ, rJI, rJP, rPP, rPI, rPJ, g1, g2, g3, g4, g5, g6, g7, g8, Nat.reduceEqDiff, Nat.reduceAdd, false_and, and_false, true_and, and_true, reduceIte, nZ0, nZ1, eτ113_2.1, eτ113_2.2, sτ113_6.1, sτ113_6.2, fun a k => (jτ113 a k).1, fun a k => (jτ113 a k).2] at q2; omega) | (exact absurd (by simp only [rII, rIJ, rIP, rJJ, rJI, rJP, rPP, rPI, rPJ, g1, g2, g3, g4, g5, g6, g7, g8, Nat.reduceEqDiff, Nat.reduceAdd, false_and, and_false, true_and, and_true, reduceIte, nZ0, nZ1, eτ113_2.1, eτ113_2.2, sτ113_6.1, sτ113_6.2, fun a k => (jτ113 a k).1, fun a k => (jτ113 a k).2]) q2))
                  · rename_i hc121
                    skip
                    unfold w_X16_see_124
                    try simp only [forall_eq, rII, rIJ, rIP, rJJ, rJI, rJP, rPP, rPI, rPJ, g1, g2, g3, g4, g5, g6, g7, g8, Nat.reduceEqDiff, Nat.reduceAdd, false_and, and_false, true_and, and_true, reduceIte, nZ0, nZ1, eτ113_2.1, eτ113_2.2, sτ113_6.1, sτ113_6.2, fun a k => (jτ113 a k).1, fun a k => (jτ113 a k).2]
                    refine s2_X16_byteAt g rτ113 (by (try simp only [rII, rIJ, rIP, rJJ, rJI, rJP, rPP, rPI, rPJ, g1, g2, g3, g4, g5, g6, g7, g8, Nat.reduceEqDiff, Nat.reduceAdd, false_and, and_false, true_and, and_true, reduceIte, nZ0, nZ1, eτ113_2.1, eτ113_2.2, sτ113_6.1, sτ113_6.2, fun a k => (jτ113 a k).1, fun a k => (jτ113 a k).2]) <;> (first | omega | with_reducible assumption | (unfold rng; omega) | (unfold rng; (repeat' split) <;> omega) | decide)) (fun r116 p17 => ?_)
                    try simp only [forall_eq, rII, rIJ, rIP, rJJ, rJI, rJP, rPP, rPI, rPJ, g1, g2, g3, g4, g5, g6, g7, g8, Nat.reduceEqDiff, Nat.reduceAdd, false_and, and_false, true_and, and_true, reduceIte, nZ0, nZ1, eτ113_2.1, eτ113_2.2, sτ113_6.1, sτ113_6.2, fun a k => (jτ113 a k).1, fun a k => (jτ113 a k).2]
                    have pb9 := p17.1
                    have pb8 := p17.2
                    (try simp only [rII, rIJ, rIP, rJJ, rJI, rJP, rPP, rPI, rPJ, g1, g2, g3, g4, g5, g6, g7, g8, Nat.reduceEqDiff, Nat.reduceAdd, false_and, and_false, true_and, and_true, reduceIte, nZ0, nZ1, eτ113_2.1, eτ113_2.2, sτ113_6.1, sτ113_6.2, fun a k => (jτ113 a k).1, fun a k => (jτ113 a k).2] at pb9)
                    refine s2_X16_within g rτ113 (fun r118 p18 => ?_)
                    try simp only [forall_eq, rII, rIJ, rIP, rJJ, rJI, rJP, rPP, rPI, rPJ, g1, g2, g3, g4, g5, g6, g7, g8, Nat.reduceEqDiff, Nat.reduceAdd, false_and, and_false, true_and, and_true, reduceIte, nZ0, nZ1, eτ113_2.1, eτ113_2.2, sτ113_6.1, sτ113_6.2, fun a k => (jτ113 a k).1, fun a k => (jτ113 a k).2]
                    have le9 : gI τ113 rm 7 = gI τ8 rm 7 → r118 = 1 := fun q => by have l := z6 q; rw [← q, ← pb9] at l; rcases p18 with z | z; exact z.1; exact absurd l z.2
                    have r01 : r118 = 0 ∨ r118 = 1 := p18.elim (fun z => Or.inr z.1) (fun z => Or.inl z.1)
                    clear z6 p18
                    split
                    · rename_i hc142
                      skip
                      unfold w_X16_see_361
                      try simp only [forall_eq, rII, rIJ, rIP, rJJ, rJI, rJP, rPP, rPI, rPJ, g1, g2, g3, g4, g5, g6, g7, g8, Nat.reduceEqDiff, Nat.reduceAdd, false_and, and_false, true_and, and_true, reduceIte, nZ0, nZ1, eτ113_2.1, eτ113_2.2, sτ113_6.1, sτ113_6.2, fun a k => (jτ113 a k).1, fun a k => (jτ113 a k).2]
                      refine hQ _ _ ?_ ?_ ?_
                      · exact rτ113
                      · exact fτ113
                      · first | exact ⟨hps, Int.le_refl _, by omega⟩ | (unfold PsI cn; refine ⟨⟨?_, fun q => ⟨?_, fun q2 => ?_⟩⟩, ?_, ?_⟩ <;> first | ((try simp only [rII, rIJ, rIP, rJJ, rJI, rJP, rPP, rPI, rPJ, g1, g2, g3, g4, g5, g6, g7, g8, Nat.reduceEqDiff, Nat.reduceAdd, false_and, and_false, true_and, and_true, reduceIte, nZ0, nZ1, eτ113_2.1, eτ113_2.2, sτ113_6.1, sτ113_6.2, fun a k => (jτ113 a k).1, fun a k => (jτ113 a k).2]) <;> first | omega | (split <;> omega)) | (simp only [rII, rIJ, rIP, rJJ, rJI, rJP, rPP, rPI, rPJ, g1, g2, g3, g4, g5, g6, g7, g8, Nat.reduceEqDiff, Nat.reduceAdd, false_and, and_false, true_and, and_true, reduceIte, nZ0, nZ1, eτ113_2.1, eτ113_2.2, sτ113_6.1, sτ113_6.2, fun a k => (jτ113 a k).1, fun a k => (jτ113 a k).2] at q2; omega) | (exact absurd (by simp only [rII, rIJ, rIP, rJJ, rJI, rJP, rPP, rPI, rPJ, g1, g2, g3, g4, g5, g6, g7, g8, Nat.reduceEqDiff, Nat.reduceAdd, false_and, and_false, true_and, and_true, reduceIte, nZ0, nZ1, eτ113_2.1, eτ113_2.2, sτ113_6.1, sτ113_6.2, fun a k => (jτ113 a k).1, fun a k => (jτ113 a k).2]) q2))
                    · rename_i hc142
                      skip
                      unfold w_X16_see_145
                      try simp only [forall_eq, rII, rIJ, rIP, rJJ, rJI, rJP, rPP, rPI, rPJ, g1, g2, g3, g4, g5, g6, g7, g8, Nat.reduceEqDiff, Nat.reduceAdd, false_and, and_false, true_and, and_true, reduceIte, nZ0, nZ1, eτ113_2.1, eτ113_2.2, sτ113_6.1, sτ113_6.2, fun a k => (jτ113 a k).1, fun a k => (jτ113 a k).2]
                      have q19 := rτ113.2.1 12; simp only [rgS] at q19
                      split
                      · rename_i hc152
                        skip
                        unfold w_X16_see_175
                        try simp only [forall_eq, rII, rIJ, rIP, rJJ, rJI, rJP, rPP, rPI, rPJ, g1, g2, g3, g4, g5, g6, g7, g8, Nat.reduceEqDiff, Nat.reduceAdd, false_and, and_false, true_and, and_true, reduceIte, nZ0, nZ1, eτ113_2.1, eτ113_2.2, sτ113_6.1, sτ113_6.2, fun a k => (jτ113 a k).1, fun a k => (jτ113 a k).2]
                        unfold w_X16_see_179
                        try simp only [forall_eq, rII, rIJ, rIP, rJJ, rJI, rJP, rPP, rPI, rPJ, g1, g2, g3, g4, g5, g6, g7, g8, Nat.reduceEqDiff, Nat.reduceAdd, false_and, and_false, true_and, and_true, reduceIte, nZ0, nZ1, eτ113_2.1, eτ113_2.2, sτ113_6.1, sτ113_6.2, fun a k => (jτ113 a k).1, fun a k => (jτ113 a k).2]
                        refine ⟨by (first | omega | with_reducible assumption | (unfold rng; omega) | (unfold rng; (repeat' split) <;> omega) | decide), ?_⟩
                        refine ⟨by (first | omega | with_reducible assumption | (unfold rng; omega) | (unfold rng; (repeat' split) <;> omega) | decide), ?_⟩
                        refine ih113 _ ?_ ?_ ?_ ?_
                        · refine Rg.sI g ?_ (by simp only [rgS]; first | with_reducible exact nZ_rng _ | with_reducible exact nB_rng _ | with_reducible exact wr_rng _ | with_reducible exact i32any _ | (first | omega | with_reducible assumption | (unfold rng; omega) | (unfold rng; (repeat' split) <;> omega) | decide)); refine Rg.sI g ?_ (by simp only [rgS]; first | with_reducible exact nZ_rng _ | with_reducible exact nB_rng _ | with_reducible exact wr_rng _ | with_reducible exact i32any _ | (first | omega | with_reducible assumption | (unfold rng; omega) | (unfold rng; (repeat' split) <;> omega) | decide)); refine Rg.sJ g ?_; exact rτ113
                        · refine Fr.sI g ?_ (by decide); refine Fr.sI g ?_ (by decide); refine Fr.sJ g ?_ (by decide); exact fτ113
                        · first | exact ⟨by (try simp only [rII, rIJ, rIP, rJJ, rJI, rJP, rPP, rPI, rPJ, g1, g2, g3, g4, g5, g6, g7, g8, Nat.reduceEqDiff, Nat.reduceAdd, false_and, and_false, true_and, and_true, reduceIte, nZ0, nZ1, eτ113_2.1, eτ113_2.2, sτ113_6.1, sτ113_6.2, fun a k => (jτ113 a k).1, fun a k => (jτ113 a k).2]) <;> omega, by (try simp only [rII, rIJ, rIP, rJJ, rJI, rJP, rPP, rPI, rPJ, g1, g2, g3, g4, g5, g6, g7, g8, Nat.reduceEqDiff, Nat.reduceAdd, false_and, and_false, true_and, and_true, reduceIte, nZ0, nZ1, eτ113_2.1, eτ113_2.2, sτ113_6.1, sτ113_6.2, fun a k => (jτ113 a k).1, fun a k => (jτ113 a k).2]) <;> omega, by (try simp only [rII, rIJ, rIP, rJJ, rJI, rJP, rPP, rPI, rPJ, g1, g2, g3, g4, g5, g6, g7, g8, Nat.reduceEqDiff, Nat.reduceAdd, false_and, and_false, true_and, and_true, reduceIte, nZ0, nZ1, eτ113_2.1, eτ113_2.2, sτ113_6.1, sτ113_6.2, fun a k => (jτ113 a k).1, fun a k => (jτ113 a k).2]) <;> omega, by (try simp only [rII, rIJ, rIP, rJJ, rJI, rJP, rPP, rPI, rPJ, g1, g2, g3, g4, g5, g6, g7, g8, Nat.reduceEqDiff, Nat.reduceAdd, false_and, and_false, true_and, and_true, reduceIte, nZ0, nZ1, eτ113_2.1, eτ113_2.2, sτ113_6.1, sτ113_6.2, fun a k => (jτ113 a k).1, fun a k => (jτ113 a k).2]) <;> omega, by (try simp only [rII, rIJ, rIP, rJJ, rJI, rJP, rPP, rPI, rPJ, g1, g2, g3, g4, g5, g6, g7, g8, Nat.reduceEqDiff, Nat.reduceAdd, false_and, and_false, true_and, and_true, reduceIte, nZ0, nZ1, eτ113_2.1, eτ113_2.2, sτ113_6.1, sτ113_6.2, fun a k => (jτ113 a k).1, fun a k => (jτ113 a k).2]) <;> omega, fun _ => wl9, by (try simp only [rII, rIJ, rIP, rJJ, rJI, rJP, rPP, rPI, rPJ, g1, g2, g3, g4, g5, g6, g7, g8, Nat.reduceEqDiff, Nat.reduceAdd, false_and, and_false, true_and, and_true, reduceIte, nZ0, nZ1, eτ113_2.1, eτ113_2.2, sτ113_6.1, sτ113_6.2, fun a k => (jτ113 a k).1, fun a k => (jτ113 a k).2]) <;> omega, by (try simp only [rII, rIJ, rIP, rJJ, rJI, rJP, rPP, rPI, rPJ, g1, g2, g3, g4, g5, g6, g7, g8, Nat.reduceEqDiff, Nat.reduceAdd, false_and, and_false, true_and, and_true, reduceIte, nZ0, nZ1, eτ113_2.1, eτ113_2.2, sτ113_6.1, sτ113_6.2, fun a k => (jτ113 a k).1, fun a k => (jτ113 a k).2]) <;> omega⟩ | exact ⟨by (try simp only [rII, rIJ, rIP, rJJ, rJI, rJP, rPP, rPI, rPJ, g1, g2, g3, g4, g5, g6, g7, g8, Nat.reduceEqDiff, Nat.reduceAdd, false_and, and_false, true_and, and_true, reduceIte, nZ0, nZ1, eτ113_2.1, eτ113_2.2, sτ113_6.1, sτ113_6.2, fun a k => (jτ113 a k).1, fun a k => (jτ113 a k).2]) <;> omega, by (try simp only [rII, rIJ, rIP, rJJ, rJI, rJP, rPP, rPI, rPJ, g1, g2, g3, g4, g5, g6, g7, g8, Nat.reduceEqDiff, Nat.reduceAdd, false_and, and_false, true_and, and_true, reduceIte, nZ0, nZ1, eτ113_2.1, eτ113_2.2, sτ113_6.1, sτ113_6.2, fun a k => (jτ113 a k).1, fun a k => (jτ113 a k).2]) <;> omega, by (try simp only [rII, rIJ, rIP, rJJ, rJI, rJP, rPP, rPI, rPJ, g1, g2, g3, g4, g5, g6, g7, g8, Nat.reduceEqDiff, Nat.reduceAdd, false_and, and_false, true_and, and_true, reduceIte, nZ0, nZ1, eτ113_2.1, eτ113_2.2, sτ113_6.1, sτ113_6.2, fun a k => (jτ113 a k).1, fun a k => (jτ113 a k).2]) <;> omega, by (try simp only [rII, rIJ, rIP, rJJ, rJI, rJP, rPP, rPI, rPJ, g1, g2, g3, g4, g5, g6, g7, g8, Nat.reduceEqDiff, Nat.reduceAdd, false_and, and_false, true_and, and_true, reduceIte, nZ0, nZ1, eτ113_2.1, eτ113_2.2, sτ113_6.1, sτ113_6.2, fun a k => (jτ113 a k).1, fun a k => (jτ113 a k).2]) <;> omega, by (try simp only [rII, rIJ, rIP, rJJ, rJI, rJP, rPP, rPI, rPJ, g1, g2, g3, g4, g5, g6, g7, g8, Nat.reduceEqDiff, Nat.reduceAdd, false_and, and_false, true_and, and_true, reduceIte, nZ0, nZ1, eτ113_2.1, eτ113_2.2, sτ113_6.1, sτ113_6.2, fun a k => (jτ113 a k).1, fun a k => (jτ113 a k).2]) <;> omega, fun q => absurd q (by (try simp only [rII, rIJ, rIP, rJJ, rJI, rJP, rPP, rPI, rPJ, g1, g2, g3, g4, g5, g6, g7, g8, Nat.reduceEqDiff, Nat.reduceAdd, false_and, and_false, true_and, and_true, reduceIte, nZ0, nZ1, eτ113_2.1, eτ113_2.2, sτ113_6.1, sτ113_6.2, fun a k => (jτ113 a k).1, fun a k => (jτ113 a k).2]) <;> omega), by (try simp only [rII, rIJ, rIP, rJJ, rJI, rJP, rPP, rPI, rPJ, g1, g2, g3, g4, g5, g6, g7, g8, Nat.reduceEqDiff, Nat.reduceAdd, false_and, and_false, true_and, and_true, reduceIte, nZ0, nZ1, eτ113_2.1, eτ113_2.2, sτ113_6.1, sτ113_6.2, fun a k => (jτ113 a k).1, fun a k => (jτ113 a k).2]) <;> omega, by (try simp only [rII, rIJ, rIP, rJJ, rJI, rJP, rPP, rPI, rPJ, g1, g2, g3, g4, g5, g6, g7, g8, Nat.reduceEqDiff, Nat.reduceAdd, false_and, and_false, true_and, and_true, reduceIte, nZ0, nZ1, eτ113_2.1, eτ113_2.2, sτ113_6.1, sτ113_6.2, fun a k => (jτ113 a k).1, fun a k => (jτ113 a k).2]) <;> omega⟩
                        · (try simp only [rII, rIJ, rIP, rJJ, rJI, rJP, rPP, rPI, rPJ, g1, g2, g3, g4, g5, g6, g7, g8, Nat.reduceEqDiff, Nat.reduceAdd, false_and, and_false, true_and, and_true, reduceIte, nZ0, nZ1, eτ113_2.1, eτ113_2.2, sτ113_6.1, sτ113_6.2, fun a k => (jτ113 a k).1, fun a k => (jτ113 a k).2]) <;> (first | omega | with_reducible assumption | (unfold rng; omega) | (unfold rng; (repeat' split) <;> omega) | decide)
                      · rename_i hc152
                        skip
                        unfold w_X16_see_155
                        try simp only [forall_eq, rII, rIJ, rIP, rJJ, rJI, rJP, rPP, rPI, rPJ, g1, g2, g3, g4, g5, g6, g7, g8, Nat.reduceEqDiff, Nat.reduceAdd, false_and, and_false, true_and, and_true, reduceIte, nZ0, nZ1, eτ113_2.1, eτ113_2.2, sτ113_6.1, sτ113_6.2, fun a k => (jτ113 a k).1, fun a k => (jτ113 a k).2]
                        refine s2_X16_byteAt g rτ113 (by (try simp only [rII, rIJ, rIP, rJJ, rJI, rJP, rPP, rPI, rPJ, g1, g2, g3, g4, g5, g6, g7, g8, Nat.reduceEqDiff, Nat.reduceAdd, false_and, and_false, true_and, and_true, reduceIte, nZ0, nZ1, eτ113_2.1, eτ113_2.2, sτ113_6.1, sτ113_6.2, fun a k => (jτ113 a k).1, fun a k => (jτ113 a k).2]) <;> (first | omega | with_reducible assumption | (unfold rng; omega) | (unfold rng; (repeat' split) <;> omega) | decide)) (fun r123 p20 => ?_)
                        try simp only [forall_eq, rII, rIJ, rIP, rJJ, rJI, rJP, rPP, rPI, rPJ, g1, g2, g3, g4, g5, g6, g7, g8, Nat.reduceEqDiff, Nat.reduceAdd, false_and, and_false, true_and, and_true, reduceIte, nZ0, nZ1, eτ113_2.1, eτ113_2.2, sτ113_6.1, sτ113_6.2, fun a k => (jτ113 a k).1, fun a k => (jτ113 a k).2]
                        have pb9 := p20.1
                        have pb8 := p20.2
                        (try simp only [rII, rIJ, rIP, rJJ, rJI, rJP, rPP, rPI, rPJ, g1, g2, g3, g4, g5, g6, g7, g8, Nat.reduceEqDiff, Nat.reduceAdd, false_and, and_false, true_and, and_true, reduceIte, nZ0, nZ1, eτ113_2.1, eτ113_2.2, sτ113_6.1, sτ113_6.2, fun a k => (jτ113 a k).1, fun a k => (jτ113 a k).2] at pb9)
                        unfold w_X16_see_179
                        try simp only [forall_eq, rII, rIJ, rIP, rJJ, rJI, rJP, rPP, rPI, rPJ, g1, g2, g3, g4, g5, g6, g7, g8, Nat.reduceEqDiff, Nat.reduceAdd, false_and, and_false, true_and, and_true, reduceIte, nZ0, nZ1, eτ113_2.1, eτ113_2.2, sτ113_6.1, sτ113_6.2, fun a k => (jτ113 a k).1, fun a k => (jτ113 a k).2]
                        refine ⟨by (first | omega | with_reducible assumption | (unfold rng; omega) | (unfold rng; (repeat' split) <;> omega) | decide), ?_⟩
                        refine ⟨by (first | omega | with_reducible assumption | (unfold rng; omega) | (unfold rng; (repeat' split) <;> omega) | decide), ?_⟩
                        refine ih113 _ ?_ ?_ ?_ ?_
                        · refine Rg.sI g ?_ (by simp only [rgS]; first | with_reducible exact nZ_rng _ | with_reducible exact nB_rng _ | with_reducible exact wr_rng _ | with_reducible exact i32any _ | (first | omega | with_reducible assumption | (unfold rng; omega) | (unfold rng; (repeat' split) <;> omega) | decide)); refine Rg.sI g ?_ (by simp only [rgS]; first | with_reducible exact nZ_rng _ | with_reducible exact nB_rng _ | with_reducible exact wr_rng _ | with_reducible exact i32any _ | (first | omega | with_reducible assumption | (unfold rng; omega) | (unfold rng; (repeat' split) <;> omega) | decide)); refine Rg.sJ g ?_; exact rτ113
                        · refine Fr.sI g ?_ (by decide); refine Fr.sI g ?_ (by decide); refine Fr.sJ g ?_ (by decide); exact fτ113
                        · first | exact ⟨by (try simp only [rII, rIJ, rIP, rJJ, rJI, rJP, rPP, rPI, rPJ, g1, g2, g3, g4, g5, g6, g7, g8, Nat.reduceEqDiff, Nat.reduceAdd, false_and, and_false, true_and, and_true, reduceIte, nZ0, nZ1, eτ113_2.1, eτ113_2.2, sτ113_6.1, sτ113_6.2, fun a k => (jτ113 a k).1, fun a k => (jτ113 a k).2]) <;> omega, by (try simp only [rII, rIJ, rIP, rJJ, rJI, rJP, rPP, rPI, rPJ, g1, g2, g3, g4, g5, g6, g7, g8, Nat.reduceEqDiff, Nat.reduceAdd, false_and, and_false, true_and, and_true, reduceIte, nZ0, nZ1, eτ113_2.1, eτ113_2.2, sτ113_6.1, sτ113_6.2, fun a k => (jτ113 a k).1, fun a k => (jτ113 a k).2]) <;> omega, by (try simp only [rII, rIJ, rIP, rJJ, rJI, rJP, rPP, rPI, rPJ, g1, g2, g3, g4, g5, g6, g7, g8, Nat.reduceEqDiff, Nat.reduceAdd, false_and, and_false, true_and, and_true, reduceIte, nZ0, nZ1, eτ113_2.1, eτ113_2.2, sτ113_6.1, sτ113_6.2, fun a k => (jτ113 a k).1, fun a k => (jτ113 a k).2]) <;> omega, by (try simp only [rII, rIJ, rIP, rJJ, rJI, rJP, rPP, rPI, rPJ, g1, g2, g3, g4, g5, g6, g7, g8, Nat.reduceEqDiff, Nat.reduceAdd, false_and, and_false, true_and, and_true, reduceIte, nZ0, nZ1, eτ113_2.1, eτ113_2.2, sτ113_6.1, sτ113_6.2, fun a k => (jτ113 a k).1, fun a k => (jτ113 a k).2]) <;> omega, by (try simp only [rII, rIJ, rIP, rJJ, rJI, rJP, rPP, rPI, rPJ, g1, g2, g3, g4, g5, g6, g7, g8, Nat.reduceEqDiff, Nat.reduceAdd, false_and, and_false, true_and, and_true, reduceIte, nZ0, nZ1, eτ113_2.1, eτ113_2.2, sτ113_6.1, sτ113_6.2, fun a k => (jτ113 a k).1, fun a k => (jτ113 a k).2]) <;> omega, fun _ => wl9, by (try simp only [rII, rIJ, rIP, rJJ, rJI, rJP, rPP, rPI, rPJ, g1, g2, g3, g4, g5, g6, g7, g8, Nat.reduceEqDiff, Nat.reduceAdd, false_and, and_false, true_and, and_true, reduceIte, nZ0, nZ1, eτ113_2.1, eτ113_2.2, sτ113_6.1, sτ113_6.2, fun a k => (jτ113 a k).1, fun a k => (jτ113 a k).2]) <;> omega, by (try simp only [rII, rIJ, rIP, rJJ, rJI, rJP, rPP, rPI, rPJ, g1, g2, g3, g4, g5, g6, g7, g8, Nat.reduceEqDiff, Nat.reduceAdd, false_and, and_false, true_and, and_true, reduceIte, nZ0, nZ1, eτ113_2.1, eτ113_2.2, sτ113_6.1, sτ113_6.2, fun a k => (jτ113 a k).1, fun a k => (jτ113 a k).2]) <;> omega⟩ | exact ⟨by (try simp only [rII, rIJ, rIP, rJJ, rJI, rJP, rPP, rPI, rPJ, g1, g2, g3, g4, g5, g6, g7, g8, Nat.reduceEqDiff, Nat.reduceAdd, false_and, and_false, true_and, and_true, reduceIte, nZ0, nZ1, eτ113_2.1, eτ113_2.2, sτ113_6.1, sτ113_6.2, fun a k => (jτ113 a k).1, fun a k => (jτ113 a k).2]) <;> omega, by (try simp only [rII, rIJ, rIP, rJJ, rJI, rJP, rPP, rPI, rPJ, g1, g2, g3, g4, g5, g6, g7, g8, Nat.reduceEqDiff, Nat.reduceAdd, false_and, and_false, true_and, and_true, reduceIte, nZ0, nZ1, eτ113_2.1, eτ113_2.2, sτ113_6.1, sτ113_6.2, fun a k => (jτ113 a k).1, fun a k => (jτ113 a k).2]) <;> omega, by (try simp only [rII, rIJ, rIP, rJJ, rJI, rJP, rPP, rPI, rPJ, g1, g2, g3, g4, g5, g6, g7, g8, Nat.reduceEqDiff, Nat.reduceAdd, false_and, and_false, true_and, and_true, reduceIte, nZ0, nZ1, eτ113_2.1, eτ113_2.2, sτ113_6.1, sτ113_6.2, fun a k => (jτ113 a k).1, fun a k => (jτ113 a k).2]) <;> omega, by (try simp only [rII, rIJ, rIP, rJJ, rJI, rJP, rPP, rPI, rPJ, g1, g2, g3, g4, g5, g6, g7, g8, Nat.reduceEqDiff, Nat.reduceAdd, false_and, and_false, true_and, and_true, reduceIte, nZ0, nZ1, eτ113_2.1, eτ113_2.2, sτ113_6.1, sτ113_6.2, fun a k => (jτ113 a k).1, fun a k => (jτ113 a k).2]) <;> omega, by (try simp only [rII, rIJ, rIP, rJJ, rJI, rJP, rPP, rPI, rPJ, g1, g2, g3, g4, g5, g6, g7, g8, Nat.reduceEqDiff, Nat.reduceAdd, false_and, and_false, true_and, and_true, reduceIte, nZ0, nZ1, eτ113_2.1, eτ113_2.2, sτ113_6.1, sτ113_6.2, fun a k => (jτ113 a k).1, fun a k => (jτ113 a k).2]) <;> omega, fun q => absurd q (by (try simp only [rII, rIJ, rIP, rJJ, rJI, rJP, rPP, rPI, rPJ, g1, g2, g3, g4, g5, g6, g7, g8, Nat.reduceEqDiff, Nat.reduceAdd, false_and, and_false, true_and, and_true, reduceIte, nZ0, nZ1, eτ113_2.1, eτ113_2.2, sτ113_6.1, sτ113_6.2, fun a k => (jτ113 a k).1, fun a k => (jτ113 a k).2]) <;> omega), by (try simp only [rII, rIJ, rIP, rJJ, rJI, rJP, rPP, rPI, rPJ, g1, g2, g3, g4, g5, g6, g7, g8, Nat.reduceEqDiff, Nat.reduceAdd, false_and, and_false, true_and, and_true, reduceIte, nZ0, nZ1, eτ113_2.1, eτ113_2.2, sτ113_6.1, sτ113_6.2, fun a k => (jτ113 a k).1, fun a k => (jτ113 a k).2]) <;> omega, by (try simp only [rII, rIJ, rIP, rJJ, rJI, rJP, rPP, rPI, rPJ, g1, g2, g3, g4, g5, g6, g7, g8, Nat.reduceEqDiff, Nat.reduceAdd, false_and, and_false, true_and, and_true, reduceIte, nZ0, nZ1, eτ113_2.1, eτ113_2.2, sτ113_6.1, sτ113_6.2, fun a k => (jτ113 a k).1, fun a k => (jτ113 a k).2]) <;> omega⟩
                        · (try simp only [rII, rIJ, rIP, rJJ, rJI, rJP, rPP, rPI, rPJ, g1, g2, g3, g4, g5, g6, g7, g8, Nat.reduceEqDiff, Nat.reduceAdd, false_and, and_false, true_and, and_true, reduceIte, nZ0, nZ1, eτ113_2.1, eτ113_2.2, sτ113_6.1, sτ113_6.2, fun a k => (jτ113 a k).1, fun a k => (jτ113 a k).2]) <;> (first | omega | with_reducible assumption | (unfold rng; omega) | (unfold rng; (repeat' split) <;> omega) | decide)
              refine ⟨_, L113 _ _ ?_ ?_ ?_ (Nat.lt_succ_self _)⟩
              · refine Rg.sI g ?_ (by simp only [rgS]; first | with_reducible exact nZ_rng _ | with_reducible exact nB_rng _ | with_reducible exact wr_rng _ | with_reducible exact i32any _ | (first | omega | with_reducible assumption | (unfold rng; omega) | (unfold rng; (repeat' split) <;> omega) | decide)); refine Rg.sJ g ?_; refine Rg.sI g ?_ (by simp only [rgS]; first | with_reducible exact nZ_rng _ | with_reducible exact nB_rng _ | with_reducible exact wr_rng _ | with_reducible exact i32any _ | (first | omega | with_reducible assumption | (unfold rng; omega) | (unfold rng; (repeat' split) <;> omega) | decide)); refine Rg.sI g ?_ (by simp only [rgS]; first | with_reducible exact nZ_rng _ | with_reducible exact nB_rng _ | with_reducible exact wr_rng _ | with_reducible exact i32any _ | (first | omega | with_reducible assumption | (unfold rng; omega) | (unfold rng; (repeat' split) <;> omega) | decide)); refine Rg.sI g ?_ (by simp only [rgS]; first | with_reducible exact nZ_rng _ | with_reducible exact nB_rng _ | with_reducible exact wr_rng _ | with_reducible exact i32any _ | (first | omega | with_reducible assumption | (unfold rng; omega) | (unfold rng; (repeat' split) <;> omega) | decide)); exact rτ8
              · refine Fr.sI g ?_ (by decide); refine Fr.sJ g ?_ (by decide); refine Fr.sI g ?_ (by decide); refine Fr.sI g ?_ (by decide); refine Fr.sI g ?_ (by decide); exact fτ8
              · first | exact ⟨by (try simp only [rII, rIJ, rIP, rJJ, rJI, rJP, rPP, rPI, rPJ, g1, g2, g3, g4, g5, g6, g7, g8, Nat.reduceEqDiff, Nat.reduceAdd, false_and, and_false, true_and, and_true, reduceIte, nZ0, nZ1, eτ8_2.1, eτ8_2.2, sτ8_6.1, sτ8_6.2, fun a k => (jτ8 a k).1, fun a k => (jτ8 a k).2]) <;> omega, by (try simp only [rII, rIJ, rIP, rJJ, rJI, rJP, rPP, rPI, rPJ, g1, g2, g3, g4, g5, g6, g7, g8, Nat.reduceEqDiff, Nat.reduceAdd, false_and, and_false, true_and, and_true, reduceIte, nZ0, nZ1, eτ8_2.1, eτ8_2.2, sτ8_6.1, sτ8_6.2, fun a k => (jτ8 a k).1, fun a k => (jτ8 a k).2]) <;> omega, by (try simp only [rII, rIJ, rIP, rJJ, rJI, rJP, rPP, rPI, rPJ, g1, g2, g3, g4, g5, g6, g7, g8, Nat.reduceEqDiff, Nat.reduceAdd, false_and, and_false, true_and, and_true, reduceIte, nZ0, nZ1, eτ8_2.1, eτ8_2.2, sτ8_6.1, sτ8_6.2, fun a k => (jτ8 a k).1, fun a k => (jτ8 a k).2]) <;> omega, by (try simp only [rII, rIJ, rIP, rJJ, rJI, rJP, rPP, rPI, rPJ, g1, g2, g3, g4, g5, g6, g7, g8, Nat.reduceEqDiff, Nat.reduceAdd, false_and, and_false, true_and, and_true, reduceIte, nZ0, nZ1, eτ8_2.1, eτ8_2.2, sτ8_6.1, sτ8_6.2, fun a k => (jτ8 a k).1, fun a k => (jτ8 a k).2]) <;> omega, by (try simp only [rII, rIJ, rIP, rJJ, rJI, rJP, rPP, rPI, rPJ, g1, g2, g3, g4, g5, g6, g7, g8, Nat.reduceEqDiff, Nat.reduceAdd, false_and, and_false, true_and, and_true, reduceIte, nZ0, nZ1, eτ8_2.1, eτ8_2.2, sτ8_6.1, sτ8_6.2, fun a k => (jτ8 a k).1, fun a k => (jτ8 a k).2]) <;> omega, fun _ => wl9, by (try simp only [rII, rIJ, rIP, rJJ, rJI, rJP, rPP, rPI, rPJ, g1, g2, g3, g4, g5, g6, g7, g8, Nat.reduceEqDiff, Nat.reduceAdd, false_and, and_false, true_and, and_true, reduceIte, nZ0, nZ1, eτ8_2.1, eτ8_2.2, sτ8_6.1, sτ8_6.2, fun a k => (jτ8 a k).1, fun a k => (jτ8 a k).2]) <;> omega, by (try simp only [rII, rIJ, rIP, rJJ, rJI, rJP, rPP, rPI, rPJ, g1, g2, g3, g4, g5, g6, g7, g8, Nat.reduceEqDiff, Nat.reduceAdd, false_and, and_false, true_and, and_true, reduceIte, nZ0, nZ1, eτ8_2.1, eτ8_2.2, sτ8_6.1, sτ8_6.2, fun a k => (jτ8 a k).1, fun a k => (jτ8 a k).2]) <;> omega⟩ | exact ⟨by (try simp only [rII, rIJ, rIP, rJJ, rJI, rJP, rPP, rPI, rPJ, g1, g2, g3, g4, g5, g6, g7, g8, Nat.reduceEqDiff, Nat.reduceAdd, false_and, and_false, true_and, and_true, reduceIte, nZ0, nZ1, eτ8_2.1, eτ8_2.2, sτ8_6.1, sτ8_6.2, fun a k => (jτ8 a k).1, fun a k => (jτ8 a k).2]) <;> omega, by (try simp only [rII, rIJ, rIP, rJJ, rJI, rJP, rPP, rPI, rPJ, g1, g2, g3, g4, g5, g6, g7, g8, Nat.reduceEqDiff, Nat.reduceAdd, false_and, and_false, true_and, and_true, reduceIte, nZ0, nZ1, eτ8_2.1, eτ8_2.2, sτ8_6.1, sτ8_6.2, fun a k => (jτ8 a k).1, fun a k => (jτ8 a k).2]) <;> omega, by (try simp only [rII, rIJ, rIP, rJJ, rJI, rJP, rPP, rPI, rPJ, g1, g2, g3, g4, g5, g6, g7, g8, Nat.reduceEqDiff, Nat.reduceAdd, false_and, and_false, true_and, and_true, reduceIte, nZ0, nZ1, eτ8_2.1, eτ8_2.2, sτ8_6.1, sτ8_6.2, fun a k => (jτ8 a k).1, fun a k => (jτ8 a k).2]) <;> omega, by (try simp only [rII, rIJ, rIP, rJJ, rJI, rJP, rPP, rPI, rPJ, g1, g2, g3, g4, g5, g6, g7, g8, Nat.reduceEqDiff, Nat.reduceAdd, false_and, and_false, true_and, and_true, reduceIte, nZ0, nZ1, eτ8_2.1, eτ8_2.2, sτ8_6.1, sτ8_6.2, fun a k => (jτ8 a k).1, fun a k => (jτ8 a k).2]) <;> omega, by (try simp only [rII, rIJ, rIP, rJJ, rJI, rJP, rPP, rPI, rPJ, g1, g2, g3, g4, g5, g6, g7, g8, Nat.reduceEqDiff, Nat.reduceAdd, false_and, and_false, true_and, and_true, reduceIte, nZ0, nZ1, eτ8_2.1, eτ8_2.2, sτ8_6.1, sτ8_6.2, fun a k => (jτ8 a k).1, fun a k => (jτ8 a k).2]) <;> omega, fun q => absurd q (by (try simp only [rII, rIJ, rIP, rJJ, rJI, rJP, rPP, rPI, rPJ, g1, g2, g3, g4, g5, g6, g7, g8, Nat.reduceEqDiff, Nat.reduceAdd, false_and, and_false, true_and, and_true, reduceIte, nZ0, nZ1, eτ8_2.1, eτ8_2.2, sτ8_6.1, sτ8_6.2, fun a k => (jτ8 a k).1, fun a k => (jτ8 a k).2]) <;> omega), by (try simp only [rII, rIJ, rIP, rJJ, rJI, rJP, rPP, rPI, rPJ, g1, g2, g3, g4, g5, g6, g7, g8, Nat.reduceEqDiff, Nat.reduceAdd, false_and, and_false, true_and, and_true, reduceIte, nZ0, nZ1, eτ8_2.1, eτ8_2.2, sτ8_6.1, sτ8_6.2, fun a k => (jτ8 a k).1, fun a k => (jτ8 a k).2]) <;> omega, by (try simp only [rII, rIJ, rIP, rJJ, rJI, rJP, rPP, rPI, rPJ, g1, g2, g3, g4, g5, g6, g7, g8, Nat.reduceEqDiff, Nat.reduceAdd, false_and, and_false, true_and, and_true, reduceIte, nZ0, nZ1, eτ8_2.1, eτ8_2.2, sτ8_6.1, sτ8_6.2, fun a k => (jτ8 a k).1, fun a k => (jτ8 a k).2]) <;> omega⟩
          · rename_i hc66
            skip
            unfold w_X16_see_69
            try simp only [forall_eq, rII, rIJ, rIP, rJJ, rJI, rJP, rPP, rPI, rPJ, g1, g2, g3, g4, g5, g6, g7, g8, Nat.reduceEqDiff, Nat.reduceAdd, false_and, and_false, true_and, and_true, reduceIte, nZ0, nZ1, eτ8_2.1, eτ8_2.2, sτ8_6.1, sτ8_6.2, fun a k => (jτ8 a k).1, fun a k => (jτ8 a k).2]
            refine hQ _ _ ?_ ?_ ?_
            · refine Rg.sI g ?_ (by simp only [rgS]; first | with_reducible exact nZ_rng _ | with_reducible exact nB_rng _ | with_reducible exact wr_rng _ | with_reducible exact i32any _ | (first | omega | with_reducible assumption | (unfold rng; omega) | (unfold rng; (repeat' split) <;> omega) | decide)); refine Rg.sI g ?_ (by simp only [rgS]; first | with_reducible exact nZ_rng _ | with_reducible exact nB_rng _ | with_reducible exact wr_rng _ | with_reducible exact i32any _ | (first | omega | with_reducible assumption | (unfold rng; omega) | (unfold rng; (repeat' split) <;> omega) | decide)); refine Rg.sI g ?_ (by simp only [rgS]; first | with_reducible exact nZ_rng _ | with_reducible exact nB_rng _ | with_reducible exact wr_rng _ | with_reducible exact i32any _ | (first | omega | with_reducible assumption | (unfold rng; omega) | (unfold rng; (repeat' split) <;> omega) | decide)); exact rτ8
            · refine Fr.sI g ?_ (by decide); refine Fr.sI g ?_ (by decide); refine Fr.sI g ?_ (by decide); exact fτ8
            · first | exact ⟨hps, Int.le_refl _, by omega⟩ | (unfold PsI cn; refine ⟨⟨?_, fun q => ⟨?_, fun q2 => ?_⟩⟩, ?_, ?_⟩ <;> first | ((try simp only [rII, rIJ, rIP, rJJ, rJI, rJP, rPP, rPI, rPJ, g1, g2, g3, g4, g5, g6, g7, g8, Nat.reduceEqDiff, Nat.reduceAdd, false_and, and_false, true_and, and_true, reduceIte, nZ0, nZ1, eτ8_2.1, eτ8_2.2, sτ8_6.1, sτ8_6.2, fun a k => (jτ8 a k).1, fun a k => (jτ8 a k).2]) <;> first | omega | (split <;> omega)) | (simp only [rII, rIJ, rIP, rJJ, rJI, rJP, rPP, rPI, rPJ, g1, g2, g3, g4, g5, g6, g7, g8, Nat.reduceEqDiff, Nat.reduceAdd, false_and, and_false, true_and, and_true, reduceIte, nZ0, nZ1, eτ8_2.1, eτ8_2.2, sτ8_6.1, sτ8_6.2, fun a k => (jτ8 a k).1, fun a k => (jτ8 a k).2] at q2; omega) | (exact absurd (by simp only [rII, rIJ, rIP, rJJ, rJI, rJP, rPP, rPI, rPJ, g1, g2, g3, g4, g5, g6, g7, g8, Nat.reduceEqDiff, Nat.reduceAdd, false_and, and_false, true_and, and_true, reduceIte, nZ0, nZ1, eτ8_2.1, eτ8_2.2, sτ8_6.1, sτ8_6.2, fun a k => (jτ8 a k).1, fun a k => (jτ8 a k).2]) q2))
        · rename_i hc16
          skip
          unfold w_X16_see_19
          try simp only [forall_eq, rII, rIJ, rIP, rJJ, rJI, rJP, rPP, rPI, rPJ, g1, g2, g3, g4, g5, g6, g7, g8, Nat.reduceEqDiff, Nat.reduceAdd, false_and, and_false, true_and, and_true, reduceIte, nZ0, nZ1, eτ8_2.1, eτ8_2.2, sτ8_6.1, sτ8_6.2, fun a k => (jτ8 a k).1, fun a k => (jτ8 a k).2]
          refine s2_X16_byteAt g rτ8 (by (try simp only [rII, rIJ, rIP, rJJ, rJI, rJP, rPP, rPI, rPJ, g1, g2, g3, g4, g5, g6, g7, g8, Nat.reduceEqDiff, Nat.reduceAdd, false_and, and_false, true_and, and_true, reduceIte, nZ0, nZ1, eτ8_2.1, eτ8_2.2, sτ8_6.1, sτ8_6.2, fun a k => (jτ8 a k).1, fun a k => (jτ8 a k).2]) <;> (first | omega | with_reducible assumption | (unfold rng; omega) | (unfold rng; (repeat' split) <;> omega) | decide)) (fun r129 p21 => ?_)
          try simp only [forall_eq, rII, rIJ, rIP, rJJ, rJI, rJP, rPP, rPI, rPJ, g1, g2, g3, g4, g5, g6, g7, g8, Nat.reduceEqDiff, Nat.reduceAdd, false_and, and_false, true_and, and_true, reduceIte, nZ0, nZ1, eτ8_2.1, eτ8_2.2, sτ8_6.1, sτ8_6.2, fun a k => (jτ8 a k).1, fun a k => (jτ8 a k).2]
          have pb9 := p21.1
          have pb8 := p21.2
          (try simp only [rII, rIJ, rIP, rJJ, rJI, rJP, rPP, rPI, rPJ, g1, g2, g3, g4, g5, g6, g7, g8, Nat.reduceEqDiff, Nat.reduceAdd, false_and, and_false, true_and, and_true, reduceIte, nZ0, nZ1, eτ8_2.1, eτ8_2.2, sτ8_6.1, sτ8_6.2, fun a k => (jτ8 a k).1, fun a k => (jτ8 a k).2] at pb9)
          split
          · rename_i hc29
            skip
            unfold w_X16_see_45
            try simp only [forall_eq, rII, rIJ, rIP, rJJ, rJI, rJP, rPP, rPI, rPJ, g1, g2, g3, g4, g5, g6, g7, g8, Nat.reduceEqDiff, Nat.reduceAdd, false_and, and_false, true_and, and_true, reduceIte, nZ0, nZ1, eτ8_2.1, eτ8_2.2, sτ8_6.1, sτ8_6.2, fun a k => (jτ8 a k).1, fun a k => (jτ8 a k).2]
            split
            · rename_i hc66
              skip
              unfold w_X16_see_75
              try simp only [forall_eq, rII, rIJ, rIP, rJJ, rJI, rJP, rPP, rPI, rPJ, g1, g2, g3, g4, g5, g6, g7, g8, Nat.reduceEqDiff, Nat.reduceAdd, false_and, and_false, true_and, and_true, reduceIte, nZ0, nZ1, eτ8_2.1, eτ8_2.2, sτ8_6.1, sτ8_6.2, fun a k => (jτ8 a k).1, fun a k => (jτ8 a k).2]
              refine s2_X16_byteAt g (by refine Rg.sI g ?_ (by simp only [rgS]; first | with_reducible exact nZ_rng _ | with_reducible exact nB_rng _ | with_reducible exact wr_rng _ | with_reducible exact i32any _ | (first | omega | with_reducible assumption | (unfold rng; omega) | (unfold rng; (repeat' split) <;> omega) | decide)); refine Rg.sI g ?_ (by simp only [rgS]; first | with_reducible exact nZ_rng _ | with_reducible exact nB_rng _ | with_reducible exact wr_rng _ | with_reducible exact i32any _ | (first | omega | with_reducible assumption | (unfold rng; omega) | (unfold rng; (repeat' split) <;> omega) | decide)); exact rτ8) (by (try simp only [rII, rIJ, rIP, rJJ, rJI, rJP, rPP, rPI, rPJ, g1, g2, g3, g4, g5, g6, g7, g8, Nat.reduceEqDiff, Nat.reduceAdd, false_and, and_false, true_and, and_true, reduceIte, nZ0, nZ1, eτ8_2.1, eτ8_2.2, sτ8_6.1, sτ8_6.2, fun a k => (jτ8 a k).1, fun a k => (jτ8 a k).2]) <;> (first | omega | with_reducible assumption | (unfold rng; omega) | (unfold rng; (repeat' split) <;> omega) | decide)) (fun r133 p22 => ?_)
              try simp only [forall_eq, rII, rIJ, rIP, rJJ, rJI, rJP, rPP, rPI, rPJ, g1, g2, g3, g4, g5, g6, g7, g8, Nat.reduceEqDiff, Nat.reduceAdd, false_and, and_false, true_and, and_true, reduceIte, nZ0, nZ1, eτ8_2.1, eτ8_2.2, sτ8_6.1, sτ8_6.2, fun a k => (jτ8 a k).1, fun a k => (jτ8 a k).2]
              have pb9 := p22.1
              have pb8 := p22.2
              (try simp only [rII, rIJ, rIP, rJJ, rJI, rJP, rPP, rPI, rPJ, g1, g2, g3, g4, g5, g6, g7, g8, Nat.reduceEqDiff, Nat.reduceAdd, false_and, and_false, true_and, and_true, reduceIte, nZ0, nZ1, eτ8_2.1, eτ8_2.2, sτ8_6.1, sτ8_6.2, fun a k => (jτ8 a k).1, fun a k => (jτ8 a k).2] at pb9)
              refine s2_X16_within g (by refine Rg.sI g ?_ (by simp only [rgS]; first | with_reducible exact nZ_rng _ | with_reducible exact nB_rng _ | with_reducible exact wr_rng _ | with_reducible exact i32any _ | (first | omega | with_reducible assumption | (unfold rng; omega) | (unfold rng; (repeat' split) <;> omega) | decide)); refine Rg.sI g ?_ (by simp only [rgS]; first | with_reducible exact nZ_rng _ | with_reducible exact nB_rng _ | with_reducible exact wr_rng _ | with_reducible exact i32any _ | (first | omega | with_reducible assumption | (unfold rng; omega) | (unfold rng; (repeat' split) <;> omega) | decide)); exact rτ8) (fun r135 p23 => ?_)
              try simp only [forall_eq, rII, rIJ, rIP, rJJ, rJI, rJP, rPP, rPI, rPJ, g1, g2, g3, g4, g5, g6, g7, g8, Nat.reduceEqDiff, Nat.reduceAdd, false_and, and_false, true_and, and_true, reduceIte, nZ0, nZ1, eτ8_2.1, eτ8_2.2, sτ8_6.1, sτ8_6.2, fun a k => (jτ8 a k).1, fun a k => (jτ8 a k).2]
              have wr9 : r135 = 0 ∨ r135 = 1 := p23.elim (fun z => Or.inr z.1) (fun z => Or.inl z.1)
              have wl8 : r135 ≠ 0 → _ := fun q => p23.elim (fun z => z.2) (fun z => absurd z.1 q)
              clear p23
              split
              · rename_i hc95
                skip
                unfold w_X16_see_205
                try simp only [forall_eq, rII, rIJ, rIP, rJJ, rJI, rJP, rPP, rPI, rPJ, g1, g2, g3, g4, g5, g6, g7, g8, Nat.reduceEqDiff, Nat.reduceAdd, false_and, and_false, true_and, and_true, reduceIte, nZ0, nZ1, eτ8_2.1, eτ8_2.2, sτ8_6.1, sτ8_6.2, fun a k => (jτ8 a k).1, fun a k => (jτ8 a k).2]
                refine s2_X16_within g (by refine Rg.sI g ?_ (by simp only [rgS]; first | with_reducible exact nZ_rng _ | with_reducible exact nB_rng _ | with_reducible exact wr_rng _ | with_reducible exact i32any _ | (first | omega | with_reducible assumption | (unfold rng; omega) | (unfold rng; (repeat' split) <;> omega) | decide)); refine Rg.sI g ?_ (by simp only [rgS]; first | with_reducible exact nZ_rng _ | with_reducible exact nB_rng _ | with_reducible exact wr_rng _ | with_reducible exact i32any _ | (first | omega | with_reducible assumption | (unfold rng; omega) | (unfold rng; (repeat' split) <;> omega) | decide)); exact rτ8) (fun r137 p24 => ?_)
                try simp only [forall_eq, rII, rIJ, rIP, rJJ, rJI, rJP, rPP, rPI, rPJ, g1, g2, g3, g4, g5, g6, g7, g8, Nat.reduceEqDiff, Nat.reduceAdd, false_and, and_false, true_and, and_true, reduceIte, nZ0, nZ1, eτ8_2.1, eτ8_2.2, sτ8_6.1, sτ8_6.2, fun a k => (jτ8 a k).1, fun a k => (jτ8 a k).2]
                have wr9 : r137 = 0 ∨ r137 = 1 := p24.elim (fun z => Or.inr z.1) (fun z => Or.inl z.1)
                have wl8 : r137 ≠ 0 → _ := fun q => p24.elim (fun z => z.2) (fun z => absurd z.1 q)
                clear p24
                split
                · rename_i hc216
                  skip
                  unfold w_X16_see_320
                  try simp only [forall_eq, rII, rIJ, rIP, rJJ, rJI, rJP, rPP, rPI, rPJ, g1, g2, g3, g4, g5, g6, g7, g8, Nat.reduceEqDiff, Nat.reduceAdd, false_and, and_false, true_and, and_true, reduceIte, nZ0, nZ1, eτ8_2.1, eτ8_2.2, sτ8_6.1, sτ8_6.2, fun a k => (jτ8 a k).1, fun a k => (jτ8 a k).2]
                  split
                  · rename_i hc324
                    skip
                    unfold w_X16_see_355
                    try simp only [forall_eq, rII, rIJ, rIP, rJJ, rJI, rJP, rPP, rPI, rPJ, g1, g2, g3, g4, g5, g6, g7, g8, Nat.reduceEqDiff, Nat.reduceAdd, false_and, and_false, true_and, and_true, reduceIte, nZ0, nZ1, eτ8_2.1, eτ8_2.2, sτ8_6.1, sτ8_6.2, fun a k => (jτ8 a k).1, fun a k => (jτ8 a k).2]
                    refine s_X16_fail g (by refine Rg.sI g ?_ (by simp only [rgS]; first | with_reducible exact nZ_rng _ | with_reducible exact nB_rng _ | with_reducible exact wr_rng _ | with_reducible exact i32any _ | (first | omega | with_reducible assumption | (unfold rng; omega) | (unfold rng; (repeat' split) <;> omega) | decide)); refine Rg.sI g ?_ (by simp only [rgS]; first | with_reducible exact nZ_rng _ | with_reducible exact nB_rng _ | with_reducible exact wr_rng _ | with_reducible exact i32any _ | (first | omega | with_reducible assumption | (unfold rng; omega) | (unfold rng; (repeat' split) <;> omega) | decide)); exact rτ8) (by (try simp only [rII, rIJ, rIP, rJJ, rJI, rJP, rPP, rPI, rPJ, g1, g2, g3, g4, g5, g6, g7, g8, Nat.reduceEqDiff, Nat.reduceAdd, false_and, and_false, true_and, and_true, reduceIte, nZ0, nZ1, eτ8_2.1, eτ8_2.2, sτ8_6.1, sτ8_6.2, fun a k => (jτ8 a k).1, fun a k => (jτ8 a k).2]) <;> (first | omega | with_reducible assumption | (unfold rng; omega) | (unfold rng; (repeat' split) <;> omega) | decide)) (fun σ138 r139 rσ138 fc p25 => ?_)
                    have fσ138 : Fr ra jx rm [] [4, 5, 7, 8, 9, 10, 11, 12, 13] σ σ138 := Fr.tr (by refine Fr.sI g ?_ (by decide); refine Fr.sI g ?_ (by decide); exact fτ8) (Fr.mor (fc) (by decide) (by decide))
                    have eσ138_2 := fσ138.1 2 (by decide)
                    have sσ138_6 := fσ138.2.1 6 (by decide)
                    have jσ138 := fσ138.2.2.1
                    try simp only [forall_eq, rII, rIJ, rIP, rJJ, rJI, rJP, rPP, rPI, rPJ, g1, g2, g3, g4, g5, g6, g7, g8, Nat.reduceEqDiff, Nat.reduceAdd, false_and, and_false, true_and, and_true, reduceIte, nZ0, nZ1, eσ138_2.1, eσ138_2.2, sσ138_6.1, sσ138_6.2, fun a k => (jσ138 a k).1, fun a k => (jσ138 a k).2]
                    refine ⟨by first | assumption | simp, ?_⟩
                    refine hX _ _ ?_ ?_ ?_
                    · exact rσ138
                    · exact fσ138
                    · exact rfl
                  · rename_i hc324
                    skip
                    unfold w_X16_see_327
                    try simp only [forall_eq, rII, rIJ, rIP, rJJ, rJI, rJP, rPP, rPI, rPJ, g1, g2, g3, g4, g5, g6, g7, g8, Nat.reduceEqDiff, Nat.reduceAdd, false_and, and_false, true_and, and_true, reduceIte, nZ0, nZ1, eτ8_2.1, eτ8_2.2, sτ8_6.1, sτ8_6.2, fun a k => (jτ8 a k).1, fun a k => (jτ8 a k).2]
                    intro r140 rgr140
                    unfold rng at rgr140
                    split
                    · rename_i hc334
                      skip
                      unfold w_X16_see_355
                      try simp only [forall_eq, rII, rIJ, rIP, rJJ, rJI, rJP, rPP, rPI, rPJ, g1, g2, g3, g4, g5, g6, g7, g8, Nat.reduceEqDiff, Nat.reduceAdd, false_and, and_false, true_and, and_true, reduceIte, nZ0, nZ1, eτ8_2.1, eτ8_2.2, sτ8_6.1, sτ8_6.2, fun a k => (jτ8 a k).1, fun a k => (jτ8 a k).2]
                      refine s_X16_fail g (by refine Rg.sI g ?_ (by simp only [rgS]; first | with_reducible exact nZ_rng _ | with_reducible exact nB_rng _ | with_reducible exact wr_rng _ | with_reducible exact i32any _ | (first | omega | with_reducible assumption | (unfold rng; omega) | (unfold rng; (repeat' split) <;> omega) | decide)); refine Rg.sI g ?_ (by simp only [rgS]; first | with_reducible exact nZ_rng _ | with_reducible exact nB_rng _ | with_reducible exact wr_rng _ | with_reducible exact i32any _ | (first | omega | with_reducible assumption | (unfold rng; omega) | (unfold rng; (repeat' split) <;> omega) | decide)); exact rτ8) (by (try simp only [rII, rIJ, rIP, rJJ, rJI, rJP, rPP, rPI, rPJ, g1, g2, g3, g4, g5, g6, g7, g8, Nat.reduceEqDiff, Nat.reduceAdd, false_and, and_false, true_and, and_true, reduceIte, nZ0, nZ1, eτ8_2.1, eτ8_2.2, sτ8_6.1, sτ8_6.2, fun a k => (jτ8 a k).1, fun a k => (jτ8 a k).2]) <;> (first | omega | with_reducible assumption | (unfold rng; omega) | (unfold rng; (repeat' split) <;> omega) | decide)) (fun σ141 r142 rσ141 fc p26 => ?_)
                      have fσ141 : Fr ra jx rm [] [4, 5, 7, 8, 9, 10, 11, 12, 13] σ σ141 := Fr.tr (by refine Fr.sI g ?_ (by decide); refine Fr.sI g ?_ (by decide); exact fτ8) (Fr.mor (fc) (by decide) (by decide))
                      have eσ141_2 := fσ141.1 2 (by decide)
                      have sσ141_6 := fσ141.2.1 6 (by decide)
                      have jσ141 := fσ141.2.2.1
                      try simp only [forall_eq, rII, rIJ, rIP, rJJ, rJI, rJP, rPP, rPI, rPJ, g1, g2, g3, g4, g5, g6, g7, g8, Nat.reduceEqDiff, Nat.reduceAdd, false_and, and_false, true_and, and_true, reduceIte, nZ0, nZ1, eσ141_2.1, eσ141_2.2, sσ141_6.1, sσ141_6.2, fun a k => (jσ141 a k).1, fun a k => (jσ141 a k).2]
                      refine ⟨by first | assumption | simp, ?_⟩
                      refine hX _ _ ?_ ?_ ?_
                      · exact rσ141
                      · exact fσ141
                      · exact rfl
                    · rename_i hc334
                      skip
                      unfold w_X16_see_337
                      try simp only [forall_eq, rII, rIJ, rIP, rJJ, rJI, rJP, rPP, rPI, rPJ, g1, g2, g3, g4, g5, g6, g7, g8, Nat.reduceEqDiff, Nat.reduceAdd, false_and, and_false, true_and, and_true, reduceIte, nZ0, nZ1, eτ8_2.1, eτ8_2.2, sτ8_6.1, sτ8_6.2, fun a k => (jτ8 a k).1, fun a k => (jτ8 a k).2]
                      refine ⟨by (first | omega | with_reducible assumption | (unfold rng; omega) | (unfold rng; (repeat' split) <;> omega) | decide), ?_⟩
                      unfold w_X16_see_361
                      try simp only [forall_eq, rII, rIJ, rIP, rJJ, rJI, rJP, rPP, rPI, rPJ, g1, g2, g3, g4, g5, g6, g7, g8, Nat.reduceEqDiff, Nat.reduceAdd, false_and, and_false, true_and, and_true, reduceIte, nZ0, nZ1, eτ8_2.1, eτ8_2.2, sτ8_6.1, sτ8_6.2, fun a k => (jτ8 a k).1, fun a k => (jτ8 a k).2]
                      refine hQ _ _ ?_ ?_ ?_
                      · refine Rg.sI g ?_ (by simp only [rgS]; first | with_reducible exact nZ_rng _ | with_reducible exact nB_rng _ | with_reducible exact wr_rng _ | with_reducible exact i32any _ | (first | omega | with_reducible assumption | (unfold rng; omega) | (unfold rng; (repeat' split) <;> omega) | decide)); refine Rg.sI g ?_ (by simp only [rgS]; first | with_reducible exact nZ_rng _ | with_reducible exact nB_rng _ | with_reducible exact wr_rng _ | with_reducible exact i32any _ | (first | omega | with_reducible assumption | (unfold rng; omega) | (unfold rng; (repeat' split) <;> omega) | decide)); refine Rg.sI g ?_ (by simp only [rgS]; first | with_reducible exact nZ_rng _ | with_reducible exact nB_rng _ | with_reducible exact wr_rng _ | with_reducible exact i32any _ | (first | omega | with_reducible assumption | (unfold rng; omega) | (unfold rng; (repeat' split) <;> omega) | decide)); refine Rg.sI g ?_ (by simp only [rgS]; first | with_reducible exact nZ_rng _ | with_reducible exact nB_rng _ | with_reducible exact wr_rng _ | with_reducible exact i32any _ | (first | omega | with_reducible assumption | (unfold rng; omega) | (unfold rng; (repeat' split) <;> omega) | decide)); exact rτ8
                      · refine Fr.sI g ?_ (by decide); refine Fr.sI g ?_ (by decide); refine Fr.sI g ?_ (by decide); refine Fr.sI g ?_ (by decide); exact fτ8
                      · first | exact ⟨hps, Int.le_refl _, by omega⟩ | (unfold PsI cn; refine ⟨⟨?_, fun q => ⟨?_, fun q2 => ?_⟩⟩, ?_, ?_⟩ <;> first | ((try simp only [rII, rIJ, rIP, rJJ, rJI, rJP, rPP, rPI, rPJ, g1, g2, g3, g4, g5, g6, g7, g8, Nat.reduceEqDiff, Nat.reduceAdd, false_and, and_false, true_and, and_true, reduceIte, nZ0, nZ1, eτ8_2.1, eτ8_2.2, sτ8_6.1, sτ8_6.2, fun a k => (jτ8 a k).1, fun a k => (jτ8 a k).2]) <;> first | omega | (split <;> omega)) | (simp only [rII, rIJ, rIP, rJJ, rJI, rJP, rPP, rPI, rPJ, g1, g2, g3, g4, g5, g6, g7, g8, Nat.reduceEqDiff, Nat.reduceAdd, false_and, and_false, true_and, and_true, reduceIte, nZ0, nZ1, eτ8_2.1, eτ8_2.2, sτ8_6.1, sτ8_6.2, fun a k => (jτ8 a k).1, fun a k => (jτ8 a k).2] at q2; omega) | (exact absurd (by simp only [rII, rIJ, rIP, rJJ, rJI, rJP, rPP, rPI, rPJ, g1, g2, g3, g4, g5, g6, g7, g8, Nat.reduceEqDiff, Nat.reduceAdd, false_and, and_false, true_and, and_true, reduceIte, nZ0, nZ1, eτ8_2.1, eτ8_2.2, sτ8_6.1, sτ8_6.2, fun a k => (jτ8 a k).1, fun a k => (jτ8 a k).2]) q2))
                · rename_i hc216
                  skip
                  unfold w_X16_see_219
                  try simp only [forall_eq, rII, rIJ, rIP, rJJ, rJI, rJP, rPP, rPI, rPJ, g1, g2, g3, g4, g5, g6, g7, g8, Nat.reduceEqDiff, Nat.reduceAdd, false_and, and_false, true_and, and_true, reduceIte, nZ0, nZ1, eτ8_2.1, eτ8_2.2, sτ8_6.1, sτ8_6.2, fun a k => (jτ8 a k).1, fun a k => (jτ8 a k).2]
                  have wl9 := wl8 (by assumption)
                  (try rw [pb9] at wl9)
                  have L231 : ∀ (fu231 : Nat) (τ231 : Sg) (v2 : Int), Rg ra jx rm τ231 → Fr ra jx rm [] [4, 5, 7, 8, 9, 10, 11, 12, 13] σ τ231 → (gI τ231 rm 7 ≤ gI σ rm 6 ∧ gI τ8 rm 7 ≤ gI τ231 rm 7 ∧ gI τ231 rm 10 = gI τ8 rm 7 ∧ gI τ231 rm 8 = 1 ∧ gI τ231 rm 9 = 2 ∧ (gI τ231 rm 7 = gI τ8 rm 7 → (48 ≤ Int64.ofInt (bt (gI σ (ra 2) (gI τ8 rm 7).toNat)) ∧ Int64.ofInt (bt (gI σ (ra 2) (gI τ8 rm 7).toNat)) ≤ 57)) ∧ 0 ≤ v2 ∧ v2 ≤ gI τ231 rm 7) → ((gI σ rm 6 - gI τ231 rm 7).toNat) < fu231 → wl_X16_see_231 ra jx rm Q X fu231 τ231 v2 := by
                    intro fu231
                    induction fu231 with
                    | zero => intro τ231 _ _ _ _ h9; omega
                    | succ fu231 ih231 =>
                      intro τ231 v2 rτ231 fτ231 hi231 hm231
                      unfold wl_X16_see_231
                      have eτ231_2 := fτ231.1 2 (by decide)
                      have sτ231_6 := fτ231.2.1 6 (by decide)
                      have jτ231 := fτ231.2.2.1
                      unfold w_X16_see_231
                      try simp only [forall_eq, rII, rIJ, rIP, rJJ, rJI, rJP, rPP, rPI, rPJ, g1, g2, g3, g4, g5, g6, g7, g8, Nat.reduceEqDiff, Nat.reduceAdd, false_and, and_false, true_and, and_true, reduceIte, nZ0, nZ1, eτ231_2.1, eτ231_2.2, sτ231_6.1, sτ231_6.2, fun a k => (jτ231 a k).1, fun a k => (jτ231 a k).2]
                      obtain ⟨z1, z2, z3, z4, z5, z6, z7, z8⟩ := hi231
                      have q2316 := rσ.2.1 6; simp only [rgS] at q2316
                      have q2317 := rτ231.2.1 7; simp only [rgS] at q2317
                      have q27 := rτ231.2.1 7; simp only [rgS] at q27
                      split
                      · rename_i hc239
                        skip
                        unfold w_X16_see_305
                        try simp only [forall_eq, rII, rIJ, rIP, rJJ, rJI, rJP, rPP, rPI, rPJ, g1, g2, g3, g4, g5, g6, g7, g8, Nat.reduceEqDiff, Nat.reduceAdd, false_and, and_false, true_and, and_true, reduceIte, nZ0, nZ1, eτ231_2.1, eτ231_2.2, sτ231_6.1, sτ231_6.2, fun a k => (jτ231 a k).1, fun a k => (jτ231 a k).2]
                        split
                        · rename_i hc308
                          skip
                          unfold w_X16_see_317
                          try simp only [forall_eq, rII, rIJ, rIP, rJJ, rJI, rJP, rPP, rPI, rPJ, g1, g2, g3, g4, g5, g6, g7, g8, Nat.reduceEqDiff, Nat.reduceAdd, false_and, and_false, true_and, and_true, reduceIte, nZ0, nZ1, eτ231_2.1, eτ231_2.2, sτ231_6.1, sτ231_6.2, fun a k => (jτ231 a k).1, fun a k => (jτ231 a k).2]
                          unfold w_X16_see_361
                          try simp only [forall_eq, rII, rIJ, rIP, rJJ, rJI, rJP, rPP, rPI, rPJ, g1, g2, g3, g4, g5, g6, g7, g8, Nat.reduceEqDiff, Nat.reduceAdd, false_and, and_false, true_and, and_true, reduceIte, nZ0, nZ1, eτ231_2.1, eτ231_2.2, sτ231_6.1, sτ231_6.2, fun a k => (jτ231 a k).1, fun a k => (jτ231 a k).2]
                          refine hQ _ _ ?_ ?_ ?_
                          · exact rτ231
                          · exact fτ231
                          · first | exact ⟨hps, Int.le_refl _, by omega⟩ | (unfold PsI cn; refine ⟨⟨?_, fun q => ⟨?_, fun q2 => ?_⟩⟩, ?_, ?_⟩ <;> first | ((try simp only [rII, rIJ, rIP, rJJ, rJI, rJP, rPP, rPI, rPJ, g1, g2, g3, g4, g5, g6, g7, g8, Nat.reduceEqDiff, Nat.reduceAdd, false_and, and_false, true_and, and_true, reduceIte, nZ0, nZ1, eτ231_2.1, eτ231_2.2, sτ231_6.1, sτ231_6.2, fun a k => (jτ231 a k).1, fun a k => (jτ231 a k).2]) <;> first | omega | (split <;> omega)) | (simp only [rII, rIJ, rIP, rJJ, rJI, rJP, rPP, rPI, rPJ, g1, g2, g3, g4, g5, g6, g7, g8, Nat.reduceEqDiff, Nat.reduceAdd, false_and, and_false, true_and, and_true, reduceIte, nZ0, nZ1, eτ231_2.1, eτ231_2.2, sτ231_6.1, sτ231_6.2, fun a k => (jτ231 a k).1, fun a k => (jτ231 a k).2] at q2; omega) | (exact absurd (by simp only [rII, rIJ, rIP, rJJ, rJI, rJP, rPP, rPI, rPJ, g1, g2, g3, g4, g5, g6, g7, g8, Nat.reduceEqDiff, Nat.reduceAdd, false_and, and_false, true_and, and_true, reduceIte, nZ0, nZ1, eτ231_2.1, eτ231_2.2, sτ231_6.1, sτ231_6.2, fun a k => (jτ231 a k).1, fun a k => (jτ231 a k).2]) q2))
                        · rename_i hc308
                          skip
                          unfold w_X16_see_311
                          try simp only [forall_eq, rII, rIJ, rIP, rJJ, rJI, rJP, rPP, rPI, rPJ, g1, g2, g3, g4, g5, g6, g7, g8, Nat.reduceEqDiff, Nat.reduceAdd, false_and, and_false, true_and, and_true, reduceIte, nZ0, nZ1, eτ231_2.1, eτ231_2.2, sτ231_6.1, sτ231_6.2, fun a k => (jτ231 a k).1, fun a k => (jτ231 a k).2]
                          refine s_X16_fail g rτ231 (by (try simp only [rII, rIJ, rIP, rJJ, rJI, rJP, rPP, rPI, rPJ, g1, g2, g3, g4, g5, g6, g7, g8, Nat.reduceEqDiff, Nat.reduceAdd, false_and, and_false, true_and, and_true, reduceIte, nZ0, nZ1, eτ231_2.1, eτ231_2.2, sτ231_6.1, sτ231_6.2, fun a k => (jτ231 a k).1, fun a k => (jτ231 a k).2]) <;> (first | omega | with_reducible assumption | (unfold rng; omega) | (unfold rng; (repeat' split) <;> omega) | decide)) (fun σ147 r148 rσ147 fc p28 => ?_)
                          have fσ147 : Fr ra jx rm [] [4, 5, 7, 8, 9, 10, 11, 12, 13] σ σ147 := Fr.tr fτ231 (Fr.mor (fc) (by decide) (by decide))
                          have eσ147_2 := fσ147.1 2 (by decide)
                          have sσ147_6 := fσ147.2.1 6 (by decide)
                          have jσ147 := fσ147.2.2.1
                          try simp only [forall_eq, rII, rIJ, rIP, rJJ, rJI, rJP, rPP, rPI, rPJ, g1, g2, g3, g4, g5, g6, g7, g8, Nat.reduceEqDiff, Nat.reduceAdd, false_and, and_false, true_and, and_true, reduceIte, nZ0, nZ1, eσ147_2.1, eσ147_2.2, sσ147_6.1, sσ147_6.2, fun a k => (jσ147 a k).1, fun a k => (jσ147 a k).2]
                          refine ⟨by first | assumption | simp, ?_⟩
                          refine hX _ _ ?_ ?_ ?_
                          · exact rσ147
                          · exact fσ147
                          · exact rfl
                      · rename_i hc239
                        skip
                        unfold w_X16_see_242
                        try simp only [forall_eq, rII, rIJ, rIP, rJJ, rJI, rJP, rPP, rPI, rPJ, g1, g2, g3, g4, g5, g6, g7, g8, Nat.reduceEqDiff, Nat.reduceAdd, false_and, and_false, true_and, and_true, reduceIte, nZ0, nZ1, eτ231_2.1, eτ231_2.2, sτ231_6.1, sτ231_6.2, fun a k => (jτ231 a k).1, fun a k => (jτ231 a k).2]
                        refine s2_X16_byteAt g rτ231 (by (try simp only [rII, rIJ, rIP, rJJ, rJI, rJP, rPP, rPI, rPJ, g1, g2, g3, g4, g5, g6, g7, g8, Nat.reduceEqDiff, Nat.reduceAdd, false_and, and_false, true_and, and_true, reduceIte, nZ0, nZ1, eτ231_2.1, eτ231_2.2, sτ231_6.1, sτ231_6.2, fun a k => (jτ231 a k).1, fun a k => (jτ231 a k).2]) <;> (first | omega | with_reducible assumption | (unfold rng; omega) | (unfold rng; (repeat' split) <;> omega) | decide)) (fun r150 p29 => ?_)
                        try simp only [forall_eq, rII, rIJ, rIP, rJJ, rJI, rJP, rPP, rPI, rPJ, g1, g2, g3, g4, g5, g6, g7, g8, Nat.reduceEqDiff, Nat.reduceAdd, false_and, and_false, true_and, and_true, reduceIte, nZ0, nZ1, eτ231_2.1, eτ231_2.2, sτ231_6.1, sτ231_6.2, fun a k => (jτ231 a k).1, fun a k => (jτ231 a k).2]
                        have pb9 := p29.1
                        have pb8 := p29.2
                        (try simp only [rII, rIJ, rIP, rJJ, rJI, rJP, rPP, rPI, rPJ, g1, g2, g3, g4, g5, g6, g7, g8, Nat.reduceEqDiff, Nat.reduceAdd, false_and, and_false, true_and, and_true, reduceIte, nZ0, nZ1, eτ231_2.1, eτ231_2.2, sτ231_6.1, sτ231_6.2, fun a k => (jτ231 a k).1, fun a k => (jτ231 a k).2] at pb9)
                        refine s2_X16_within g rτ231 (fun r152 p30 => ?_)
                        try simp only [forall_eq, rII, rIJ, rIP, rJJ, rJI, rJP, rPP, rPI, rPJ, g1, g2, g3, g4, g5, g6, g7, g8, Nat.reduceEqDiff, Nat.reduceAdd, false_and, and_false, true_and, and_true, reduceIte, nZ0, nZ1, eτ231_2.1, eτ231_2.2, sτ231_6.1, sτ231_6.2, fun a k => (jτ231 a k).1, fun a k => (jτ231 a k).2]
                        have le9 : gI τ231 rm 7 = gI τ8 rm 7 → r152 = 1 := fun q => by have l := z6 q; rw [← q, ← pb9] at l; rcases p30 with z | z; exact z.1; exact absurd l z.2
                        have r01 : r152 = 0 ∨ r152 = 1 := p30.elim (fun z => Or.inr z.1) (fun z => Or.inl z.1)
                        clear z6 p30
                        split
                        · rename_i hc260
                          skip
                          unfold w_X16_see_305
                          try simp only [forall_eq, rII, rIJ, rIP, rJJ, rJI, rJP, rPP, rPI, rPJ, g1, g2, g3, g4, g5, g6, g7, g8, Nat.reduceEqDiff, Nat.reduceAdd, false_and, and_false, true_and, and_true, reduceIte, nZ0, nZ1, eτ231_2.1, eτ231_2.2, sτ231_6.1, sτ231_6.2, fun a k => (jτ231 a k).1, fun a k => (jτ231 a k).2]
                          split
                          · rename_i hc308
                            skip
                            unfold w_X16_see_317
                            try simp only [forall_eq, rII, rIJ, rIP, rJJ, rJI, rJP, rPP, rPI, rPJ, g1, g2, g3, g4, g5, g6, g7, g8, Nat.reduceEqDiff, Nat.reduceAdd, false_and, and_false, true_and, and_true, reduceIte, nZ0, nZ1, eτ231_2.1, eτ231_2.2, sτ231_6.1, sτ231_6.2, fun a k => (jτ231 a k).1, fun a k => (jτ231 a k).2]
                            unfold w_X16_see_361
                            try simp only [forall_eq, rII, rIJ, rIP, rJJ, rJI, rJP, rPP, rPI, rPJ, g1, g2, g3, g4, g5, g6, g7, g8, Nat.reduceEqDiff, Nat.reduceAdd, false_and, and_false, true_and, and_true, reduceIte, nZ0, nZ1, eτ231_2.1, eτ231_2.2, sτ231_6.1, sτ231_6.2, fun a k => (jτ231 a k).1, fun a k => (jτ231 a k).2]
                            refine hQ _ _ ?_ ?_ ?_
                            · exact rτ231
                            · exact fτ231
                            · first | exact ⟨hps, Int.le_refl _, by omega⟩ | (unfold PsI cn; refine ⟨⟨?_, fun q => ⟨?_, fun q2 => ?_⟩⟩, ?_, ?_⟩ <;> first | ((try simp only [rII, rIJ, rIP, rJJ, rJI, rJP, rPP, rPI, rPJ, g1, g2, g3, g4, g5, g6, g7, g8, Nat.reduceEqDiff, Nat.reduceAdd, false_and, and_false, true_and, and_true, reduceIte, nZ0, nZ1, eτ231_2.1, eτ231_2.2, sτ231_6.1, sτ231_6.2, fun a k => (jτ231 a k).1, fun a k => (jτ231 a k).2]) <;> first | omega | (split <;> omega)) | (simp only [rII, rIJ, rIP, rJJ, rJI, rJP, rPP, rPI, rPJ, g1, g2, g3, g4, g5, g6, g7, g8, Nat.reduceEqDiff, Nat.reduceAdd, false_and, and_false, true_and, and_true, reduceIte, nZ0, nZ1, eτ231_2.1, eτ231_2.2, sτ231_6.1, sτ231_6.2, fun a k => (jτ231 a k).1, fun a k => (jτ231 a k).2] at q2; omega) | (exact absurd (by simp only [rII, rIJ, rIP, rJJ, rJI, rJP, rPP, rPI, rPJ, g1, g2, g3, g4, g5, g6, g7, g8, Nat.reduceEqDiff, Nat.reduceAdd, false_and, and_false, true_and, and_true, reduceIte, nZ0, nZ1, eτ231_2.1, eτ231_2.2, sτ231_6.1, sτ231_6.2, fun a k => (jτ231 a k).1, fun a k => (jτ231 a k).2]) q2))
                          · rename_i hc308
                            skip
                            unfold w_X16_see_311
                            try simp only [forall_eq, rII, rIJ, rIP, rJJ, rJI, rJP, rPP, rPI, rPJ, g1, g2, g3, g4, g5, g6, g7, g8, Nat.reduceEqDiff, Nat.reduceAdd, false_and, and_false, true_and, and_true, reduceIte, nZ0, nZ1, eτ231_2.1, eτ231_2.2, sτ231_6.1, sτ231_6.2, fun a k => (jτ231 a k).1, fun a k => (jτ231 a k).2]
                            refine s_X16_fail g rτ231 (by (try simp only [rII, rIJ, rIP, rJJ, rJI, rJP, rPP, rPI, rPJ, g1, g2, g3, g4, g5, g6, g7, g8, Nat.reduceEqDiff, Nat.reduceAdd, false_and, and_false, true_and, and_true, reduceIte, nZ0, nZ1, eτ231_2.1, eτ231_2.2, sτ231_6.1, sτ231_6.2, fun a k => (jτ231 a k).1, fun a k => (jτ231 a k).2]) <;> (first | omega | with_reducible assumption | (unfold rng; omega) | (unfold rng; (repeat' split) <;> omega) | decide)) (fun σ153 r154 rσ153 fc p31 => ?_)
                            have fσ153 : Fr ra jx rm [] [4, 5, 7, 8, 9, 10, 11, 12, 13] σ σ153 := Fr.tr fτ231 (Fr.mor (fc) (by decide) (by decide))
                            have eσ153_2 := fσ153.1 2 (by decide)
                            have sσ153_6 := fσ153.2.1 6 (by decide)
                            have jσ153 := fσ153.2.2.1
                            try simp only [forall_eq, rII, rIJ, rIP, rJJ, rJI, rJP, rPP, rPI, rPJ, g1, g2, g3, g4, g5, g6, g7, g8, Nat.reduceEqDiff, Nat.reduceAdd, false_and, and_false, true_and, and_true, reduceIte, nZ0, nZ1, eσ153_2.1, eσ153_2.2, sσ153_6.1, sσ153_6.2, fun a k => (jσ153 a k).1, fun a k => (jσ153 a k).2]
                            refine ⟨by first | assumption | simp, ?_⟩
                            refine hX _ _ ?_ ?_ ?_
                            · exact rσ153
                            · exact fσ153
                            · exact rfl
                        · rename_i hc260
                          skip
                          unfold w_X16_see_263
                          try simp only [forall_eq, rII, rIJ, rIP, rJJ, rJI, rJP, rPP, rPI, rPJ, g1, g2, g3, g4, g5, g6, g7, g8, Nat.reduceEqDiff, Nat.reduceAdd, false_and, and_false, true_and, and_true, reduceIte, nZ0, nZ1, eτ231_2.1, eτ231_2.2, sτ231_6.1, sτ231_6.2, fun a k => (jτ231 a k).1, fun a k => (jτ231 a k).2]
                          refine s2_X16_byteAt g rτ231 (by (try simp only [rII, rIJ, rIP, rJJ, rJI, rJP, rPP, rPI, rPJ, g1, g2, g3, g4, g5, g6, g7, g8, Nat.reduceEqDiff, Nat.reduceAdd, false_and, and_false, true_and, and_true, reduceIte, nZ0, nZ1, eτ231_2.1, eτ231_2.2, sτ231_6.1, sτ231_6.2, fun a k => (jτ231 a k).1, fun a k => (jτ231 a k).2]) <;> (first | omega | with_reducible assumption | (unfold rng; omega) | (unfold rng; (repeat' split) <;> omega) | decide)) (fun r156 p32 => ?_)
                          try simp only [forall_eq, rII, rIJ, rIP, rJJ, rJI, rJP, rPP, rPI, rPJ, g1, g2, g3, g4, g5, g6, g7, g8, Nat.reduceEqDiff, Nat.reduceAdd, false_and, and_false, true_and, and_true, reduceIte, nZ0, nZ1, eτ231_2.1, eτ231_2.2, sτ231_6.1, sτ231_6.2, fun a k => (jτ231 a k).1, fun a k => (jτ231 a k).2]
                          have pb9 := p32.1
                          have pb8 := p32.2
                          (try simp only [rII, rIJ, rIP, rJJ, rJI, rJP, rPP, rPI, rPJ, g1, g2, g3, g4, g5, g6, g7, g8, Nat.reduceEqDiff, Nat.reduceAdd, false_and, and_false, true_and, and_true, reduceIte, nZ0, nZ1, eτ231_2.1, eτ231_2.2, sτ231_6.1, sτ231_6.2, fun a k => (jτ231 a k).1, fun a k => (jτ231 a k).2] at pb9)
                          refine ⟨by (first | omega | with_reducible assumption | (unfold rng; omega) | (unfold rng; (repeat' split) <;> omega) | decide), ?_⟩
                          refine ⟨by (first | omega | with_reducible assumption | (unfold rng; omega) | (unfold rng; (repeat' split) <;> omega) | decide), ?_⟩
                          refine ih231 _ _ ?_ ?_ ?_ ?_
                          · refine Rg.sI g ?_ (by simp only [rgS]; first | with_reducible exact nZ_rng _ | with_reducible exact nB_rng _ | with_reducible exact wr_rng _ | with_reducible exact i32any _ | (first | omega | with_reducible assumption | (unfold rng; omega) | (unfold rng; (repeat' split) <;> omega) | decide)); refine Rg.sJ g ?_; exact rτ231
                          · refine Fr.sI g ?_ (by decide); refine Fr.sJ g ?_ (by decide); exact fτ231
                          · first | exact ⟨by (try simp only [rII, rIJ, rIP, rJJ, rJI, rJP, rPP, rPI, rPJ, g1, g2, g3, g4, g5, g6, g7, g8, Nat.reduceEqDiff, Nat.reduceAdd, false_and, and_false, true_and, and_true, reduceIte, nZ0, nZ1, eτ231_2.1, eτ231_2.2, sτ231_6.1, sτ231_6.2, fun a k => (jτ231 a k).1, fun a k => (jτ231 a k).2]) <;> omega, by (try simp only [rII, rIJ, rIP, rJJ, rJI, rJP, rPP, rPI, rPJ, g1, g2, g3, g4, g5, g6, g7, g8, Nat.reduceEqDiff, Nat.reduceAdd, false_and, and_false, true_and, and_true, reduceIte, nZ0, nZ1, eτ231_2.1, eτ231_2.2, sτ231_6.1, sτ231_6.2, fun a k => (jτ231 a k).1, fun a k => (jτ231 a k).2]) <;> omega, by (try simp only [rII, rIJ, rIP, rJJ, rJI, rJP, rPP, rPI, rPJ, g1, g2, g3, g4, g5, g6, g7, g8, Nat.reduceEqDiff, Nat.reduceAdd, false_and, and_false, true_and, and_true, reduceIte, nZ0, nZ1, eτ231_2.1, eτ231_2.2, sτ231_6.1, sτ231_6.2, fun a k => (jτ231 a k).1, fun a k => (jτ231 a k).2]) <;> omega, by (try simp only [rII, rIJ, rIP, rJJ, rJI, rJP, rPP, rPI, rPJ, g1, g2, g3, g4, g5, g6, g7, g8, Nat.reduceEqDiff, Nat.reduceAdd, false_and, and_false, true_and, and_true, reduceIte, nZ0, nZ1, eτ231_2.1, eτ231_2.2, sτ231_6.1, sτ231_6.2, fun a k => (jτ231 a k).1, fun a k => (jτ231 a k).2]) <;> omega, by (try simp only [rII, rIJ, rIP, rJJ, rJI, rJP, rPP, rPI, rPJ, g1, g2, g3, g4, g5, g6, g7, g8, Nat.reduceEqDiff, Nat.reduceAdd, false_and, and_false, true_and, and_true, reduceIte, nZ0, nZ1, eτ231_2.1, eτ231_2.2, sτ231_6.1, sτ231_6.2, fun a k => (jτ231 a k).1, fun a k => (jτ231 a k).2]) <;> omega, fun _ => wl9, by (try simp only [rII, rIJ, rIP, rJJ, rJI, rJP, rPP, rPI, rPJ, g1, g2, g3, g4, g5, g6, g7, g8, Nat.reduceEqDiff, Nat.reduceAdd, false_and, and_false, true_and, and_true, reduceIte, nZ0, nZ1, eτ231_2.1, eτ231_2.2, sτ231_6.1, sτ231_6.2, fun a k => (jτ231 a k).1, fun a k => (jτ231 a k).2]) <;> omega, by (try simp only [rII, rIJ, rIP, rJJ, rJI, rJP, rPP, rPI, rPJ, g1, g2, g3, g4, g5, g6, g7, g8, Nat.reduceEqDiff, Nat.reduceAdd, false_and, and_false, true_and, and_true, reduceIte, nZ0, nZ1, eτ231_2.1, eτ231_2.2, sτ231_6.1, sτ231_6.2, fun a k => (jτ231 a k).1, fun a k => (jτ231 a k).2]) <;> omega⟩ | exact ⟨by (try simp only [rII, rIJ, rIP, rJJ, rJI, rJP, rPP, rPI, rPJ, g1, g2, g3, g4, g5, g6, g7, g8, Nat.reduceEqDiff, Nat.reduceAdd, false_and, and_false, true_and, and_true, reduceIte, nZ0, nZ1, eτ231_2.1, eτ231_2.2, sτ231_6.1, sτ231_6.2, fun a k => (jτ231 a k).1, fun a k => (jτ231 a k).2]) <;> omega, by (try simp only [rII, rIJ, rIP, rJJ, rJI, rJP, rPP, rPI, rPJ, g1, g2, g3, g4, g5, g6, g7, g8, Nat.reduceEqDiff, Nat.reduceAdd, false_and, and_false, true_and, and_true, reduceIte, nZ0, nZ1, eτ231_2.1, eτ231_2.2, sτ231_6.1, sτ231_6.2, fun a k => (jτ231 a k).1, fun a k => (jτ231 a k).2]) <;> omega, by (try simp only [rII, rIJ, rIP, rJJ, rJI, rJP, rPP, rPI, rPJ, g1, g2, g3, g4, g5, g6, g7, g8, Nat.reduceEqDiff, Nat.reduceAdd, false_and, and_false, true_and, and_true, reduceIte, nZ0, nZ1, eτ231_2.1, eτ231_2.2, sτ231_6.1, sτ231_6.2, fun a k => (jτ231 a k).1, fun a k => (jτ231 a k).2]) <;> omega, by (try simp only [rII, rIJ, rIP, rJJ, rJI, rJP, rPP, rPI, rPJ, g1, g2, g3, g4, g5, g6, g7, g8, Nat.reduceEqDiff, Nat.reduceAdd, false_and, and_false, true_and, and_true, reduceIte, nZ0, nZ1, eτ231_2.1, eτ231_2.2, sτ231_6.1, sτ231_6.2, fun a k => (jτ231 a k).1, fun a k => (jτ231 a k).2]) <;> omega, by (try simp only [rII, rIJ, rIP, rJJ, rJI, rJP, rPP, rPI, rPJ, g1, g2, g3, g4, g5, g6, g7, g8, Nat.reduceEqDiff, Nat.reduceAdd, false_and, and_false, true_and, and_true, reduceIte, nZ0, nZ1, eτ231_2.1, eτ231_2.2, sτ231_6.1, sτ231_6.2, fun a k => (jτ231 a k).1, fun a k => (jτ231 a k).2]) <;> omega, fun q => absurd q (by (try simp only [rII, rIJ, rIP, rJJ, rJI, rJP, rPP, rPI, rPJ, g1, g2, g3, g4, g5, g6, g7, g8, Nat.reduceEqDiff, Nat.reduceAdd, false_and, and_false, true_and, and_true, reduceIte, nZ0, nZ1, eτ231_2.1, eτ231_2.2, sτ231_6.1, sτ231_6.2, fun a k => (jτ231 a k).1, fun a k => (jτ231 a k).2]) <;> omega), by (try simp only [rII, rIJ, rIP, rJJ, rJI, rJP, rPP, rPI, rPJ, g1, g2, g3, g4, g5, g6, g7, g8, Nat.reduceEqDiff, Nat.reduceAdd, false_and, and_false, true_and, and_true, reduceIte, nZ0, nZ1, eτ231_2.1, eτ231_2.2, sτ231_6.1, sτ231_6.2, fun a k => (jτ231 a k).1, fun a k => (jτ231 a k).2]) <;> omega, by (try simp only [rII, rIJ, rIP, rJJ, rJI, rJP, rPP, rPI, rPJ, g1, g2, g3, g4, g5, g6, g7, g8, Nat.reduceEqDiff, Nat.reduceAdd, false_and, and_false, true_and, and_true, reduceIte, nZ0, nZ1, eτ231_2.1, eτ231_2.2, sτ231_6.1, sτ231_6.2, fun a k => (jτ231 a k).1, fun a k => (jτ231 a k).2]) <;> omega⟩
                          · (try simp only [rII, rIJ, rIP, rJJ, rJI, rJP, rPP, rPI, rPJ, g1, g2, g3, g4, g5, g6, g7, g8, Nat.reduceEqDiff, Nat.reduceAdd, false_and, and_false, true_and, and_true, reduceIte, nZ0, nZ1, eτ231_2.1, eτ231_2.2, sτ231_6.1, sτ231_6.2, fun a k => (jτ231 a k).1, fun a k => (jτ231 a k).2]) <;> (first | omega | with_reducible assumption | (unfold rng; omega) | (unfold rng; (repeat' split) <;> omega) | decide)
                  refine ⟨_, L231 _ _ _ ?_ ?_ ?_ (Nat.lt_succ_self _)⟩
                  · refine Rg.sJ g ?_; refine Rg.sI g ?_ (by simp only [rgS]; first | with_reducible exact nZ_rng _ | with_reducible exact nB_rng _ | with_reducible exact wr_rng _ | with_reducible exact i32any _ | (first | omega | with_reducible assumption | (unfold rng; omega) | (unfold rng; (repeat' split) <;> omega) | decide)); refine Rg.sI g ?_ (by simp only [rgS]; first | with_reducible exact nZ_rng _ | with_reducible exact nB_rng _ | with_reducible exact wr_rng _ | with_reducible exact i32any _ | (first | omega | with_reducible assumption | (unfold rng; omega) | (unfold rng; (repeat' split) <;> omega) | decide)); refine Rg.sI g ?_ (by simp only [rgS]; first | with_reducible exact nZ_rng _ | with_reducible exact nB_rng _ | with_reducible exact wr_rng _ | with_reducible exact i32any _ | (first | omega | with_reducible assumption | (unfold rng; omega) | (unfold rng; (repeat' split) <;> omega) | decide)); exact rτ8
                  · refine Fr.sJ g ?_ (by decide); refine Fr.sI g ?_ (by decide); refine Fr.sI g ?_ (by decide); refine Fr.sI g ?_ (by decide); exact fτ8
                  · first | exact ⟨by (try simp only [rII, rIJ, rIP, rJJ, rJI, rJP, rPP, rPI, rPJ, g1, g2, g3, g4, g5, g6, g7, g8, Nat.reduceEqDiff, Nat.reduceAdd, false_and, and_false, true_and, and_true, reduceIte, nZ0, nZ1, eτ8_2.1, eτ8_2.2, sτ8_6.1, sτ8_6.2, fun a k => (jτ8 a k).1, fun a k => (jτ8 a k).2]) <;> omega, by (try simp only [rII, rIJ, rIP, rJJ, rJI, rJP, rPP, rPI, rPJ, g1, g2, g3, g4, g5, g6, g7, g8, Nat.reduceEqDiff, Nat.reduceAdd, false_and, and_false, true_and, and_true, reduceIte, nZ0, nZ1, eτ8_2.1, eτ8_2.2, sτ8_6.1, sτ8_6.2, fun a k => (jτ8 a k).1, fun a k => (jτ8 a k).2]) <;> omega, by (try simp only [rII, rIJ, rIP, rJJ, rJI, rJP, rPP, rPI, rPJ, g1, g2, g3, g4, g5, g6, g7, g8, Nat.reduceEqDiff, Nat.reduceAdd, false_and, and_false, true_and, and_true, reduceIte, nZ0, nZ1, eτ8_2.1, eτ8_2.2, sτ8_6.1, sτ8_6.2, fun a k => (jτ8 a k).1, fun a k => (jτ8 a k).2]) <;> omega, by (try simp only [rII, rIJ, rIP, rJJ, rJI, rJP, rPP, rPI, rPJ, g1, g2, g3, g4, g5, g6, g7, g8, Nat.reduceEqDiff, Nat.reduceAdd, false_and, and_false, true_and, and_true, reduceIte, nZ0, nZ1, eτ8_2.1, eτ8_2.2, sτ8_6.1, sτ8_6.2, fun a k => (jτ8 a k).1, fun a k => (jτ8 a k).2]) <;> omega, by (try simp only [rII, rIJ, rIP, rJJ, rJI, rJP, rPP, rPI, rPJ, g1, g2, g3, g4, g5, g6, g7, g8, Nat.reduceEqDiff, Nat.reduceAdd, false_and, and_false, true_and, and_true, reduceIte, nZ0, nZ1, eτ8_2.1, eτ8_2.2, sτ8_6.1, sτ8_6.2, fun a k => (jτ8 a k).1, fun a k => (jτ8 a k).2]) <;> omega, fun _ => wl9, by (try simp only [rII, rIJ, rIP, rJJ, rJI, rJP, rPP, rPI, rPJ, g1, g2, g3, g4, g5, g6, g7, g8, Nat.reduceEqDiff, Nat.reduceAdd, false_and, and_false, true_and, and_true, reduceIte, nZ0, nZ1, eτ8_2.1, eτ8_2.2, sτ8_6.1, sτ8_6.2, fun a k => (jτ8 a k).1, fun a k => (jτ8 a k).2]) <;> omega, by (try simp only [rII, rIJ, rIP, rJJ, rJI, rJP, rPP, rPI, rPJ, g1, g2, g3, g4, g5, g6, g7, g8, Nat.reduceEqDiff, Nat.reduceAdd, false_and, and_false, true_and, and_true, reduceIte, nZ0, nZ1, eτ8_2.1, eτ8_2.2, sτ8_6.1, sτ8_6.2, fun a k => (jτ8 a k).1, fun a k => (jτ8 a k).2]) <;> omega⟩ | exact ⟨by (try simp only [rII, rIJ, rIP, rJJ, rJI, rJP, rPP, rPI, rPJ, g1, g2, g3, g4, g5, g6, g7, g8, Nat.reduceEqDiff, Nat.reduceAdd, false_and, and_false, true_and, and_true, reduceIte, nZ0, nZ1, eτ8_2.1, eτ8_2.2, sτ8_6.1, sτ8_6.2, fun a k => (jτ8 a k).1, fun a k => (jτ8 a k).2]) <;> omega, by (try simp only [rII, rIJ, rIP, rJJ, rJI, rJP, rPP, rPI, rPJ, g1, g2, g3, g4, g5, g6, g7, g8, Nat.reduceEqDiff, Nat.reduceAdd, false_and, and_false, true_and, and_true, reduceIte, nZ0, nZ1, eτ8_2.1, eτ8_2.2, sτ8_6.1, sτ8_6.2, fun a k => (jτ8 a k).1, fun a k => (jτ8 a k).2]) <;> omega, by (try simp only [rII, rIJ, rIP, rJJ, rJI, rJP, rPP, rPI, rPJ, g1, g2, g3, g4, g5, g6, g7, g8, Nat.reduceEqDiff, Nat.reduceAdd, false_and, and_false, true_and, and_true, reduceIte, nZ0, nZ1, eτ8_2.1, eτ8_2.2, sτ8_6.1, sτ8_6.2, fun a k => (jτ8 a k).1, fun a k => (jτ8 a k).2]) <;> omega, by (try simp only [rII, rIJ, rIP, rJJ, rJI, rJP, rPP, rPI, rPJ, g1, g2, g3, g4, g5, g6, g7, g8, Nat.reduceEqDiff, Nat.reduceAdd, false_and, and_false, true_and, and_true, reduceIte, nZ0, nZ1, eτ8_2.1, eτ8_2.2, sτ8_6.1, sτ8_6.2, fun a k => (jτ8 a k).1, fun a k => (jτ8 a k).2]) <;> omega, by (try simp only [rII, rIJ, rIP, rJJ, rJI, rJP, rPP, rPI, rPJ, g1, g2, g3, g4, g5, g6, g7, g8, Nat.reduceEqDiff, Nat.reduceAdd, false_and, and_false, true_and, and_true, reduceIte, nZ0, nZ1, eτ8_2.1, eτ8_2.2, sτ8_6.1, sτ8_6.2, fun a k => (jτ8 a k).1, fun a k => (jτ8 a k).2]) <;> omega, fun q => absurd q (by (try simp only [rII, rIJ, rIP, rJJ, rJI, rJP, rPP, rPI, rPJ, g1, g2, g3, g4, g5, g6, g7, g8, Nat.reduceEqDiff, Nat.reduceAdd, false_and, and_false, true_and, and_true, reduceIte, nZ0, nZ1, eτ8_2.1, eτ8_2.2, sτ8_6.1, sτ8_6.2, fun a k => (jτ8 a k).1, fun a k => (jτ8 a k).2]) <;> omega), by (try simp only [rII, rIJ, rIP, rJJ, rJI, rJP, rPP, rPI, rPJ, g1, g2, g3, g4, g5, g6, g7, g8, Nat.reduceEqDiff, Nat.reduceAdd, false_and, and_false, true_and, and_true, reduceIte, nZ0, nZ1, eτ8_2.1, eτ8_2.2, sτ8_6.1, sτ8_6.2, fun a k => (jτ8 a k).1, fun a k => (jτ8 a k).2]) <;> omega, by (try simp only [rII, rIJ, rIP, rJJ, rJI, rJP, rPP, rPI, rPJ, g1, g2, g3, g4, g5, g6, g7, g8, Nat.reduceEqDiff, Nat.reduceAdd, false_and, and_false, true_and, and_true, reduceIte, nZ0, nZ1, eτ8_2.1, eτ8_2.2, sτ8_6.1, sτ8_6.2, fun a k => (jτ8 a k).1, fun a k => (jτ8 a k).2]) <;> omega⟩
              · rename_i hc95
                skip
                unfold w_X16_see_98
                try simp only [forall_eq, rII, rIJ, rIP, rJJ, rJI, rJP, rPP, rPI, rPJ, g1, g2, g3, g4, g5, g6, g7, g8, Nat.reduceEqDiff, Nat.reduceAdd, false_and, and_false, true_and, and_true, reduceIte, nZ0, nZ1, eτ8_2.1, eτ8_2.2, sτ8_6.1, sτ8_6.2, fun a k => (jτ8 a k).1, fun a k => (jτ8 a k).2]
                have wl9 := wl8 (by assumption)
                (try rw [pb9] at wl9)
                have L113 : ∀ (fu113 : Nat) (τ113 : Sg), Rg ra jx rm τ113 → Fr ra jx rm [] [4, 5, 7, 8, 9, 10, 11, 12, 13] σ τ113 → (gI τ113 rm 7 ≤ gI σ rm 6 ∧ gI τ8 rm 7 ≤ gI τ113 rm 7 ∧ gI τ113 rm 10 = gI τ8 rm 7 ∧ gI τ113 rm 8 = 1 ∧ gI τ113 rm 9 = 1 ∧ (gI τ113 rm 7 = gI τ8 rm 7 → (97 ≤ Int64.ofInt (bt (gI σ (ra 2) (gI τ8 rm 7).toNat)) ∧ Int64.ofInt (bt (gI σ (ra 2) (gI τ8 rm 7).toNat)) ≤ 122)) ∧ 0 ≤ gI τ113 rm 12 ∧ gI τ113 rm 12 ≤ gI τ113 rm 7) → ((gI σ rm 6 - gI τ113 rm 7).toNat) < fu113 → wl_X16_see_113 ra jx rm Q X fu113 τ113 := by
                  intro fu113
                  induction fu113 with
                  | zero => intro τ113 _ _ _ h9; omega
                  | succ fu113 ih113 =>
                    intro τ113 rτ113 fτ113 hi113 hm113
                    unfold wl_X16_see_113
                    have eτ113_2 := fτ113.1 2 (by decide)
                    have sτ113_6 := fτ113.2.1 6 (by decide)
                    have jτ113 := fτ113.2.2.1
                    unfold w_X16_see_113
                    try simp only [forall_eq, rII, rIJ, rIP, rJJ, rJI, rJP, rPP, rPI, rPJ, g1, g2, g3, g4, g5, g6, g7, g8, Nat.reduceEqDiff, Nat.reduceAdd, false_and, and_false, true_and, and_true, reduceIte, nZ0, nZ1, eτ113_2.1, eτ113_2.2, sτ113_6.1, sτ113_6.2, fun a k => (jτ113 a k).1, fun a k => (jτ113 a k).2]
                    obtain ⟨z1, z2, z3, z4, z5, z6, z7, z8⟩ := hi113
                    have q1136 := rσ.2.1 6; simp only [rgS] at q1136
                    have q1137 := rτ113.2.1 7; simp only [rgS] at q1137
                    have q33 := rτ113.2.1 7; simp only [rgS] at q33
                    split
                    · rename_i hc121
                      skip
                      unfold w_X16_see_361
                      try simp only [forall_eq, rII, rIJ, rIP, rJJ, rJI, rJP, rPP, rPI, rPJ, g1, g2, g3, g4, g5, g6, g7, g8, Nat.reduceEqDiff, Nat.reduceAdd, false_and, and_false, true_and, and_true, reduceIte, nZ0, nZ1, eτ113_2.1, eτ113_2.2, sτ113_6.1, sτ113_6.2, fun a k => (jτ113 a k).1, fun a k => (jτ113 a k).2]
                      refine hQ _ _ ?_ ?_ ?_
                      · exact rτ113
                      · exact fτ113
                      · first | exact ⟨hps, Int.le_refl _, by omega⟩ | (unfold PsI cn; refine ⟨⟨?_, fun q => ⟨?_, fun q2 => ?_⟩⟩, ?_, ?_⟩ <;> first | ((try simp only [rII, rIJ, rIP, rJJ, rJI, rJP, rPP, rPI, rPJ, g1, g2, g3, g4, g5, g6, g7, g8, Nat.reduceEqDiff, Nat.reduceAdd, false_and, and_false, true_and, and_true, reduceIte, nZ0, nZ1, eτ113_2.1, eτ113_2.2, sτ113_6.1, sτ113_6.2, fun a k => (jτ113 a k).1, fun a k => (jτ113 a k).2]) <;> first | omega | (split <;> omega)) | (simp only [rII, rIJ, rIP, rJJ, rJI, rJP, rPP, rPI, rPJ, g1, g2, g3, g4, g5, g6, g7, g8, Nat.reduceEqDiff, Nat.reduceAdd, false_and, and_false, true_and, and_true, reduceIte, nZ0, nZ1, eτ113_2.1, eτ113_2.2, sτ113_6.1, sτ113_6.2, fun a k => (jτ113 a k).1, fun a k => (jτ113 a k).2] at q2; omega) | (exact absurd (by simp only [rII, rIJ, rIP, rJJ, rJI, rJP, rPP, rPI, rPJ, g1, g2, g3, g4, g5, g6, g7, g8, Nat.reduceEqDiff, Nat.reduceAdd, false_and, and_false, true_and, and_true, reduceIte, nZ0, nZ1, eτ113_2.1, eτ113_2.2, sτ113_6.1, sτ113_6.2, fun a k => (jτ113 a k).1, fun a k => (jτ113 a k).2]) q2))
                    · rename_i hc121
                      skip
                      unfold w_X16_see_124
                      try simp only [forall_eq, rII, rIJ, rIP, rJJ, rJI, rJP, rPP, rPI, rPJ, g1, g2, g3, g4, g5, g6, g7, g8, Nat.reduceEqDiff, Nat.reduceAdd, false_and, and_false, true_and, and_true, reduceIte, nZ0, nZ1, eτ113_2.1, eτ113_2.2, sτ113_6.1, sτ113_6.2, fun a k => (jτ113 a k).1, fun a k => (jτ113 a k).2]
                      refine s2_X16_byteAt g rτ113 (by (try simp only [rII, rIJ, rIP, rJJ, rJI, rJP, rPP, rPI, rPJ, g1, g2, g3, g4, g5, g6, g7, g8, Nat.reduceEqDiff, Nat.reduceAdd, false_and, and_false, true_and, and_true, reduceIte, nZ0, nZ1, eτ113_2.1, eτ113_2.2, sτ113_6.1, sτ113_6.2, fun a k => (jτ113 a k).1, fun a k => (jτ113 a k).2]) <;> (first | omega | with_reducible assumption | (unfold rng; omega) | (unfold rng; (repeat' split) <;> omega) | decide)) (fun r163 p34 => ?_)
                      try simp only [forall_eq, rII, rIJ, rIP, rJJ, rJI, rJP, rPP, rPI, rPJ, g1, g2, g3, g4, g5, g6, g7, g8, Nat.reduceEqDiff, Nat.reduceAdd, false_and, and_false, true_and, and_true, reduceIte, nZ0, nZ1, eτ113_2.1, eτ113_2.2, sτ113_6.1, sτ113_6.2, fun a k => (jτ113 a k).1, fun a k => (jτ113 a k).2]
                      have pb9 := p34.1
                      have pb8 := p34.2
                      (try simp only [rII, rIJ, rIP, rJJ, rJI, rJP, rPP, rPI, rPJ, g1, g2, g3, g4, g5, g6, g7, g8, Nat.reduceEqDiff, Nat.reduceAdd, false_and, and_false, true_and, and_true, reduceIte, nZ0, nZ1, eτ113_2.1, eτ113_2.2, sτ113_6.1, sτ113_6.2, fun a k => (jτ113 a k).1, fun a k => (jτ113 a k).2] at pb9)
                      refine s2_X16_within g rτ113 (fun r165 p35 => ?_)
                      try simp only [forall_eq, rII, rIJ, rIP, rJJ, rJI, rJP, rPP, rPI, rPJ, g1, g2, g3, g4, g5, g6, g7, g8, Nat.reduceEqDiff, Nat.reduceAdd, false_and, and_false, true_and, and_true, reduceIte, nZ0, nZ1, eτ113_2.1, eτ113_2.2, sτ113_6.1, sτ113_6.2, fun a k => (jτ113 a k).1, fun a k => (jτ113 a k).2]
                      have le9 : gI τ113 rm 7 = gI τ8 rm 7 → r165 = 1 := fun q => by have l := z6 q; rw [← q, ← pb9] at l; rcases p35 with z | z; exact z.1; exact absurd l z.2
                      have r01 : r165 = 0 ∨ r165 = 1 := p35.elim (fun z => Or.inr z.1) (fun z => Or.inl z.1)
                      clear z6 p35
                      split
                      · rename_i hc142
                        skip
                        unfold w_X16_see_361
                        try simp only [forall_eq, rII, rIJ, rIP, rJJ, rJI, rJP, rPP, rPI, rPJ, g1, g2, g3, g4, g5, g6, g7, g8, Nat.reduceEqDiff, Nat.reduceAdd, false_and, and_false, true_and, and_true, reduceIte, nZ0, nZ1, eτ113_2.1, eτ113_2.2, sτ113_6.1, sτ113_6.2, fun a k => (jτ113 a k).1, fun a k => (jτ113 a k).2]
                        refine hQ _ _ ?_ ?_ ?_
                        · exact rτ113
                        · exact fτ113
                        · first | exact ⟨hps, Int.le_refl _, by omega⟩ | (unfold PsI cn; refine ⟨⟨?_, fun q => ⟨?_, fun q2 => ?_⟩⟩, ?_, ?_⟩ <;> first | ((try simp only [rII, rIJ, rIP, rJJ, rJI, rJP, rPP, rPI, rPJ, g1, g2, g3, g4, g5, g6, g7, g8, Nat.reduceEqDiff, Nat.reduceAdd, false_and, and_false, true_and, and_true, reduceIte, nZ0, nZ1, eτ113_2.1, eτ113_2.2, sτ113_6.1, sτ113_6.2, fun a k => (jτ113 a k).1, fun a k => (jτ113 a k).2]) <;> first | omega | (split <;> omega)) | (simp only [rII, rIJ, rIP, rJJ, rJI, rJP, rPP, rPI, rPJ, g1, g2, g3, g4, g5, g6, g7, g8, Nat.reduceEqDiff, Nat.reduceAdd, false_and, and_false, true_and, and_true, reduceIte, nZ0, nZ1, eτ113_2.1, eτ113_2.2, sτ113_6.1, sτ113_6.2, fun a k => (jτ113 a k).1, fun a k => (jτ113 a k).2] at q2; omega) | (exact absurd (by simp only [rII, rIJ, rIP, rJJ, rJI, rJP, rPP, rPI, rPJ, g1, g2, g3, g4, g5, g6, g7, g8, Nat.reduceEqDiff, Nat.reduceAdd, false_and, and_false, true_and, and_true, reduceIte, nZ0, nZ1, eτ113_2.1, eτ113_2.2, sτ113_6.1, sτ113_6.2, fun a k => (jτ113 a k).1, fun a k => (jτ113 a k).2]) q2))
                      · rename_i hc142
                        skip
                        unfold w_X16_see_145
                        try simp only [forall_eq, rII, rIJ, rIP, rJJ, rJI, rJP, rPP, rPI, rPJ, g1, g2, g3, g4, g5, g6, g7, g8, Nat.reduceEqDiff, Nat.reduceAdd, false_and, and_false, true_and, and_true, reduceIte, nZ0, nZ1, eτ113_2.1, eτ113_2.2, sτ113_6.1, sτ113_6.2, fun a k => (jτ113 a k).1, fun a k => (jτ113 a k).2]
                        have q36 := rτ113.2.1 12; simp only [rgS] at q36
                        split
                        · rename_i hc152
                          skip
                          unfold w_X16_see_175
                          try simp only [forall_eq, rII, rIJ, rIP, rJJ, rJI, rJP, rPP, rPI, rPJ, g1, g2, g3, g4, g5, g6, g7, g8, Nat.reduceEqDiff, Nat.reduceAdd, false_and, and_false, true_and, and_true, reduceIte, nZ0, nZ1, eτ113_2.1, eτ113_2.2, sτ113_6.1, sτ113_6.2, fun a k => (jτ113 a k).1, fun a k => (jτ113 a k).2]
                          unfold w_X16_see_179
                          try simp only [forall_eq, rII, rIJ, rIP, rJJ, rJI, rJP, rPP, rPI, rPJ, g1, g2, g3, g4, g5, g6, g7, g8, Nat.reduceEqDiff, Nat.reduceAdd, false_and, and_false, true_and, and_true, reduceIte, nZ0, nZ1, eτ113_2.1, eτ113_2.2, sτ113_6.1, sτ113_6.2, fun a k => (jτ113 a k).1, fun a k => (jτ113 a k).2]
                          refine ⟨by (first | omega | with_reducible assumption | (unfold rng; omega) | (unfold rng; (repeat' split) <;> omega) | decide), ?_⟩
                          refine ⟨by (first | omega | with_reducible assumption | (unfold rng; omega) | (unfold rng; (repeat' split) <;> omega) | decide), ?_⟩
                          refine ih113 _ ?_ ?_ ?_ ?_
                          · refine Rg.sI g ?_ (by simp only [rgS]; first | with_reducible exact nZ_rng _ | with_reducible exact nB_rng _ | with_reducible exact wr_rng _ | with_reducible exact i32any _ | (first | omega | with_reducible assumption | (unfold rng; omega) | (unfold rng; (repeat' split) <;> omega) | decide)); refine Rg.sI g ?_ (by simp only [rgS]; first | with_reducible exact nZ_rng _ | with_reducible exact nB_rng _ | with_reducible exact wr_rng _ | with_reducible exact i32any _ | (first | omega | with_reducible assumption | (unfold rng; omega) | (unfold rng; (repeat' split) <;> omega) | decide)); refine Rg.sJ g ?_; exact rτ113
                          · refine Fr.sI g ?_ (by decide); refine Fr.sI g ?_ (by decide); refine Fr.sJ g ?_ (by decide); exact fτ113
                          · first | exact ⟨by (try simp only [rII, rIJ, rIP, rJJ, rJI, rJP, rPP, rPI, rPJ, g1, g2, g3, g4, g5, g6, g7, g8, Nat.reduceEqDiff, Nat.reduceAdd, false_and, and_false, true_and, and_true, reduceIte, nZ0, nZ1, eτ113_2.1, eτ113_2.2, sτ113_6.1, sτ113_6.2, fun a k => (jτ113 a k).1, fun a k => (jτ113 a k).2]) <;> omega, by (try simp only [rII, rIJ, rIP, rJJ, rJI, rJP, rPP, rPI, rPJ, g1, g2, g3, g4, g5, g6, g7, g8, Nat.reduceEqDiff, Nat.reduceAdd, false_and, and_false, true_and, and_true, reduceIte, nZ0, nZ1, eτ113_2.1, eτ113_2.2, sτ113_6.1, sτ113_6.2, fun a k => (jτ113 a k).1, fun a k => (jτ113 a k).2]) <;> omega, by (try simp only [rII, rIJ, rIP, rJJ, rJI, rJP, rPP, rPI, rPJ, g1, g2, g3, g4, g5, g6, g7, g8, Nat.reduceEqDiff, Nat.reduceAdd, false_and, and_false, true_and, and_true, reduceIte, nZ0, nZ1, eτ113_2.1, eτ113_2.2, sτ113_6.1, sτ113_6.2, fun a k => (jτ113 a k).1, fun a k => (jτ113 a k).2]) <;> omega, by (try simp only [rII, rIJ, rIP, rJJ, rJI, rJP, rPP, rPI, rPJ, g1, g2, g3, g4, g5, g6, g7, g8, Nat.reduceEqDiff, Nat.reduceAdd, false_and, and_false, true_and, and_true, reduceIte, nZ0, nZ1, eτ113_2.1, eτ113_2.2, sτ113_6.1, sτ113_6.2, fun a k => (jτ113 a k).1, fun a k => (jτ113 a k).2]) <;> omega, by (try simp only [rII, rIJ, rIP, rJJ, rJI, rJP, rPP, rPI, rPJ, g1, g2, g3, g4, g5, g6, g7, g8, Nat.reduceEqDiff, Nat.reduceAdd, false_and, and_false, true_and, and_true, reduceIte, nZ0, nZ1, eτ113_2.1, eτ113_2.2, sτ113_6.1, sτ113_6.2, fun a k => (jτ113 a k).1, fun a k => (jτ113 a k).2]) <;> omega, fun _ => wl9, by (try simp only [rII, rIJ, rIP, rJJ, rJI, rJP, rPP, rPI, rPJ, g1, g2, g3, g4, g5, g6, g7, g8, Nat.reduceEqDiff, Nat.reduceAdd, false_and, and_false, true_and, and_true, reduceIte, nZ0, nZ1, eτ113_2.1, eτ113_2.2, sτ113_6.1, sτ113_6.2, fun a k => (jτ113 a k).1, fun a k => (jτ113 a k).2]) <;> omega, by (try simp only [rII, rIJ, rIP, rJJ, rJI, rJP, rPP, rPI, rPJ, g1, g2, g3, g4, g5, g6, g7, g8, Nat.reduceEqDiff, Nat.reduceAdd, false_and, and_false, true_and, and_true, reduceIte, nZ0, nZ1, eτ113_2.1, eτ113_2.2, sτ113_6.1, sτ113_6.2, fun a k => (jτ113 a k).1, fun a k => (jτ113 a k).2]) <;> omega⟩ | exact ⟨by (try simp only [rII, rIJ, rIP, rJJ, rJI, rJP, rPP, rPI, rPJ, g1, g2, g3, g4, g5, g6, g7, g8, Nat.reduceEqDiff, Nat.reduceAdd, false_and, and_false, true_and, and_true, reduceIte, nZ0, nZ1, eτ113_2.1, eτ113_2.2, sτ113_6.1, sτ113_6.2, fun a k => (jτ113 a k).1, fun a k => (jτ113 a k).2]) <;> omega, by (try simp only [rII, rIJ, rIP, rJJ, rJI, rJP, rPP, rPI, rPJ, g1, g2, g3, g4, g5, g6, g7, g8, Nat.reduceEqDiff, Nat.reduceAdd, false_and, and_false, true_and, and_true, reduceIte, nZ0, nZ1, eτ113_2.1, eτ113_2.2, sτ113_6.1, sτ113_6.2, fun a k => (jτ113 a k).1, fun a k => (jτ113 a k).2]) <;> omega, by (try simp only [rII, rIJ, rIP, rJJ, rJI, rJP, rPP, rPI, rPJ, g1, g2, g3, g4, g5, g6, g7, g8, Nat.reduceEqDiff, Nat.reduceAdd, false_and, and_false, true_and, and_true, reduceIte, nZ0, nZ1, eτ113_2.1, eτ113_2.2, sτ113_6.1, sτ113_6.2, fun a k => (jτ113 a k).1, fun a k => (jτ113 a k).2]) <;> omega, by (try simp only [rII, rIJ, rIP, rJJ, rJI, rJP, rPP, rPI, rPJ, g1, g2, g3, g4, g5, g6, g7, g8, Nat.reduceEqDiff, Nat.reduceAdd, false_and, and_false, true_and, and_true, reduceIte, nZ0, nZ1, eτ113_2.1, eτ113_2.2, sτ113_6.1, sτ113_6.2, fun a k => (jτ113 a k).1, fun a k => (jτ113 a k).2]) <;> omega, by (try simp only [rII, rIJ, rIP, rJJ, rJI, rJP, rPP, rPI, rPJ, g1, g2, g3, g4, g5, g6, g7, g8, Nat.reduceEqDiff, Nat.reduceAdd, false_and, and_false, true_and, and_true, reduceIte, nZ0, nZ1, eτ113_2.1, eτ113_2.2, sτ113_6.1, sτ113_6.2, fun a k => (jτ113 a k).1, fun a k => (jτ113 a k).2]) <;> omega, fun q => absurd q (by (try simp only [rII, rIJ, rIP, rJJ, rJI, rJP, rPP, rPI, rPJ, g1, g2, g3, g4, g5, g6, g7, g8, Nat.reduceEqDiff, Nat.reduceAdd, false_and, and_false, true_and, and_true, reduceIte, nZ0, nZ1, eτ113_2.1, eτ113_2.2, sτ113_6.1, sτ113_6.2, fun a k => (jτ113 a k).1, fun a k => (jτ113 a k).2]) <;> omega), by (try simp only [rII, rIJ, rIP, rJJ, rJI, rJP, rPP, rPI, rPJ, g1, g2, g3, g4, g5, g6, g7, g8, Nat.reduceEqDiff, Nat.reduceAdd, false_and, and_false, true_and, and_true, reduceIte, nZ0, nZ1, eτ113_2.1, eτ113_2.2, sτ113_6.1, sτ113_6.2, fun a k => (jτ113 a k).1, fun a k => (jτ113 a k).2]) <;> omega, by (try simp only [rII, rIJ, rIP, rJJ, rJI, rJP, rPP, rPI, rPJ, g1, g2, g3, g4, g5, g6, g7, g8, Nat.reduceEqDiff, Nat.reduceAdd, false_and, and_false, true_and, and_true, reduceIte, nZ0, nZ1, eτ113_2.1, eτ113_2.2, sτ113_6.1, sτ113_6.2, fun a k => (jτ113 a k).1, fun a k => (jτ113 a k).2]) <;> omega⟩
                          · (try simp only [rII, rIJ, rIP, rJJ, rJI, rJP, rPP, rPI, rPJ, g1, g2, g3, g4, g5, g6, g7, g8, Nat.reduceEqDiff, Nat.reduceAdd, false_and, and_false, true_and, and_true, reduceIte, nZ0, nZ1, eτ113_2.1, eτ113_2.2, sτ113_6.1, sτ113_6.2, fun a k => (jτ113 a k).1, fun a k => (jτ113 a k).2]) <;> (first | omega | with_reducible assumption | (unfold rng; omega) | (unfold rng; (repeat' split) <;> omega) | decide)
                        · rename_i hc152
                          skip
                          unfold w_X16_see_155
                          try simp only [forall_eq, rII, rIJ, rIP, rJJ, rJI, rJP, rPP, rPI, rPJ, g1, g2, g3, g4, g5, g6, g7, g8, Nat.reduceEqDiff, Nat.reduceAdd, false_and, and_false, true_and, and_true, reduceIte, nZ0, nZ1, eτ113_2.1, eτ113_2.2, sτ113_6.1, sτ113_6.2, fun a k => (jτ113 a k).1, fun a k => (jτ113 a k).2]
                          refine s2_X16_byteAt g rτ113 (by (try simp only [rII, rIJ, rIP, rJJ, rJI, rJP, rPP, rPI, rPJ, g1, g2, g3, g4, g5, g6, g7, g8, Nat.reduceEqDiff, Nat.reduceAdd, false_and, and_false, true_and, and_true, reduceIte, nZ0, nZ1, eτ113_2.1, eτ113_2.2, sτ113_6.1, sτ113_6.2, fun a k => (jτ113 a k).1, fun a k => (jτ113 a k).2]) <;> (first | omega | with_reducible assumption | (unfold rng; omega) | (unfold rng; (repeat' split) <;> omega) | decide)) (fun r170 p37 => ?_)
                          try simp only [forall_eq, rII, rIJ, rIP, rJJ, rJI, rJP, rPP, rPI, rPJ, g1, g2, g3, g4, g5, g6, g7, g8, Nat.reduceEqDiff, Nat.reduceAdd, false_and, and_false, true_and, and_true, reduceIte, nZ0, nZ1, eτ113_2.1, eτ113_2.2, sτ113_6.1, sτ113_6.2, fun a k => (jτ113 a k).1, fun a k => (jτ113 a k).2]
                          have pb9 := p37.1
                          have pb8 := p37.2
                          (try simp only [rII, rIJ, rIP, rJJ, rJI, rJP, rPP, rPI, rPJ, g1, g2, g3, g4, g5, g6, g7, g8, Nat.reduceEqDiff, Nat.reduceAdd, false_and, and_false, true_and, and_true, reduceIte, nZ0, nZ1, eτ113_2.1, eτ113_2.2, sτ113_6.1, sτ113_6.2, fun a k => (jτ113 a k).1, fun a k => (jτ113 a k).2] at pb9)
                          unfold w_X16_see_179
                          try simp only [forall_eq, rII, rIJ, rIP, rJJ, rJI, rJP, rPP, rPI, rPJ, g1, g2, g3, g4, g5, g6, g7, g8, Nat.reduceEqDiff, Nat.reduceAdd, false_and, and_false, true_and, and_true, reduceIte, nZ0, nZ1, eτ113_2.1, eτ113_2.2, sτ113_6.1, sτ113_6.2, fun a k => (jτ113 a k).1, fun a k => (jτ113 a k).2]
                          refine ⟨by (first | omega | with_reducible assumption | (unfold rng; omega) | (unfold rng; (repeat' split) <;> omega) | decide), ?_⟩
                          refine ⟨by (first | omega | with_reducible assumption | (unfold rng; omega) | (unfold rng; (repeat' split) <;> omega) | decide), ?_⟩
                          refine ih113 _ ?_ ?_ ?_ ?_
                          · refine Rg.sI g ?_ (by simp only [rgS]; first | with_reducible exact nZ_rng _ | with_reducible exact nB_rng _ | with_reducible exact wr_rng _ | with_reducible exact i32any _ | (first | omega | with_reducible assumption | (unfold rng; omega) | (unfold rng; (repeat' split) <;> omega) | decide)); refine Rg.sI g ?_ (by simp only [rgS]; first | with_reducible exact nZ_rng _ | with_reducible exact nB_rng _ | with_reducible exact wr_rng _ | with_reducible exact i32any _ | (first | omega | with_reducible assumption | (unfold rng; omega) | (unfold rng; (repeat' split) <;> omega) | decide)); refine Rg.sJ g ?_; exact rτ113
                          · refine Fr.sI g ?_ (by decide); refine Fr.sI g ?_ (by decide); refine Fr.sJ g ?_ (by decide); exact fτ113
                          · first | exact ⟨by (try simp only [rII, rIJ, rIP, rJJ, rJI, rJP, rPP, rPI, rPJ, g1, g2, g3, g4, g5, g6, g7, g8, Nat.reduceEqDiff, Nat.reduceAdd, false_and, and_false, true_and, and_true, reduceIte, nZ0, nZ1, eτ113_2.1, eτ113_2.2, sτ113_6.1, sτ113_6.2, fun a k => (jτ113 a k).1, fun a k => (jτ113 a k).2]) <;> omega, by (try simp only [rII, rIJ, rIP, rJJ, rJI, rJP, rPP, rPI, rPJ, g1, g2, g3, g4, g5, g6, g7, g8, Nat.reduceEqDiff, Nat.reduceAdd, false_and, and_false, true_and, and_true, reduceIte, nZ0, nZ1, eτ113_2.1, eτ113_2.2, sτ113_6.1, sτ113_6.2, fun a k => (jτ113 a k).1, fun a k => (jτ113 a k).2]) <;> omega, by (try simp only [rII, rIJ, rIP, rJJ, rJI, rJP, rPP, rPI, rPJ, g1, g2, g3, g4, g5, g6, g7, g8, Nat.reduceEqDiff, Nat.reduceAdd, false_and, and_false, true_and, and_true, reduceIte, nZ0, nZ1, eτ113_2.1, eτ113_2.2, sτ113_6.1, sτ113_6.2, fun a k => (jτ113 a k).1, fun a k => (jτ113 a k).2]) <;> omega, by (try simp only [rII, rIJ, rIP, rJJ, rJI, rJP, rPP, rPI, rPJ, g1, g2, g3, g4, g5, g6, g7, g8, Nat.reduceEqDiff, Nat.reduceAdd, false_and, and_false, true_and, and_true, reduceIte, nZ0, nZ1, eτ113_2.1, eτ113_2.2, sτ113_6.1, sτ113_6.2, fun a k => (jτ113 a k).1, fun a k => (jτ113 a k).2]) <;> omega, by (try simp only [rII, rIJ, rIP, rJJ, rJI, rJP, rPP, rPI, rPJ, g1, g2, g3, g4, g5, g6, g7, g8, Nat.reduceEqDiff, Nat.reduceAdd, false_and, and_false, true_and, and_true, reduceIte, nZ0, nZ1, eτ113_2.1, eτ113_2.2, sτ113_6.1, sτ113_6.2, fun a k => (jτ113 a k).1, fun a k => (jτ113 a k).2]) <;> omega, fun _ => wl9, by (try simp only [rII, rIJ, rIP, rJJ, rJI, rJP, rPP, rPI, rPJ, g1, g2, g3, g4, g5, g6, g7, g8, Nat.reduceEqDiff, Nat.reduceAdd, false_and, and_false, true_and, and_true, reduceIte, nZ0, nZ1, eτ113_2.1, eτ113_2.2, sτ113_6.1, sτ113_6.2, fun a k => (jτ113 a k).1, fun a k => (jτ113 a k).2]) <;> omega, by (try simp only [rII, rIJ, rIP, rJJ, rJI, rJP, rPP, rPI, rPJ, g1, g2, g3, g4, g5, g6, g7, g8, Nat.reduceEqDiff, Nat.reduceAdd, false_and, and_false, true_and, and_true, reduceIte, nZ0, nZ1, eτ113_2.1, eτ113_2.2, sτ113_6.1, sτ113_6.2, fun a k => (jτ113 a k).1, fun a k => (jτ113 a k).2]) <;> omega⟩ | exact ⟨by (try simp only [rII, rIJ, rIP, rJJ, rJI, rJP, rPP, rPI, rPJ, g1, g2, g3, g4, g5, g6, g7, g8, Nat.reduceEqDiff, Nat.reduceAdd, false_and, and_false, true_and, and_true, reduceIte, nZ0, nZ1, eτ113_2.1, eτ113_2.2, sτ113_6.1, sτ113_6.2, fun a k => (jτ113 a k).1, fun a k => (jτ113 a k).2]) <;> omega, by (try simp only [rII, rIJ, rIP, rJJ, rJI, rJP, rPP, rPI, rPJ, g1, g2, g3, g4, g5, g6, g7, g8, Nat.reduceEqDiff, Nat.reduceAdd, false_and, and_false, true_and, and_true, reduceIte, nZ0, nZ1, eτ113_2.1, eτ113_2.2, sτ113_6.1, sτ113_6.2, fun a k => (jτ113 a k).1, fun a k => (jτ113 a k).2]) <;> omega, by (try simp only [rII, rIJ, rIP, rJJ, rJI, rJP, rPP, rPI, rPJ, g1, g2, g3, g4, g5, g6, g7, g8, Nat.reduceEqDiff, Nat.reduceAdd, false_and, and_false, true_and, and_true, reduceIte, nZ0, nZ1, eτ113_2.1, eτ113_2.2, sτ113_6.1, sτ113_6.2, fun a k => (jτ113 a k).1, fun a k => (jτ113 a k).2]) <;> omega, by (try simp only [rII, rIJ, rIP, rJJ, rJI, rJP, rPP, rPI, rPJ, g1, g2, g3, g4, g5, g6, g7, g8, Nat.reduceEqDiff, Nat.reduceAdd, false_and, and_false, true_and, and_true, reduceIte, nZ0, nZ1, eτ113_2.1, eτ113_2.2, sτ113_6.1, sτ113_6.2, fun a k => (jτ113 a k).1, fun a k => (jτ113 a k).2]) <;> omega, by (try simp only [rII, rIJ, rIP, rJJ, rJI, rJP, rPP, rPI, rPJ, g1, g2, g3, g4, g5, g6, g7, g8, Nat.reduceEqDiff, Nat.reduceAdd, false_and, and_false, true_and, and_true, reduceIte, nZ0, nZ1, eτ113_2.1, eτ113_2.2, sτ113_6.1, sτ113_6.2, fun a k => (jτ113 a k).1, fun a k => (jτ113 a k).2]) <;> omega, fun q => absurd q (by (try simp only [rII, rIJ, rIP, rJJ, rJI, rJP, rPP, rPI, rPJ, g1, g2, g3, g4, g5, g6, g7, g8, Nat.reduceEqDiff, Nat.reduceAdd, false_and, and_false, true_and, and_true, reduceIte, nZ0, nZ1, eτ113_2.1, eτ113_2.2, sτ113_6.1, sτ113_6.2, fun a k => (jτ113 a k).1, fun a k => (jτ113 a k).2]) <;> omega), by (try simp only [rII, rIJ, rIP, rJJ, rJI, rJP, rPP, rPI, rPJ, g1, g2, g3, g4, g5, g6, g7, g8, Nat.reduceEqDiff, Nat.reduceAdd, false_and, and_false, true_and, and_true, reduceIte, nZ0, nZ1, eτ113_2.1, eτ113_2.2, sτ113_6.1, sτ113_6.2, fun a k => (jτ113 a k).1, fun a k => (jτ113 a k).2]) <;> omega, by (try simp only [rII, rIJ, rIP, rJJ, rJI, rJP, rPP, rPI, rPJ, g1, g2, g3, g4, g5, g6, g7, g8, Nat.reduceEqDiff, Nat.reduceAdd, false_and, and_false, true_and, and_true, reduceIte, nZ0, nZ1, eτ113_2.1, eτ113_2.2, sτ113_6.1, sτ113_6.2, fun a k => (jτ113 a k).1, fun a k => (jτ113 a k).2]) <;> omega⟩
                          · (try simp only [rII, rIJ, rIP, rJJ, rJI, rJP, rPP, rPI, rPJ, g1, g2, g3, g4, g5, g6, g7, g8, Nat.reduceEqDiff, Nat.reduceAdd, false_and, and_false, true_and, and_true, reduceIte, nZ0, nZ1, eτ113_2.1, eτ113_2.2, sτ113_6.1, sτ113_6.2, fun a k => (jτ113 a k).1, fun a k => (jτ113 a k).2]) <;> (first | omega | with_reducible assumption | (unfold rng; omega) | (unfold rng; (repeat' split) <;> omega) | decide)
                refine ⟨_, L113 _ _ ?_ ?_ ?_ (Nat.lt_succ_self _)⟩
                · refine Rg.sI g ?_ (by simp only [rgS]; first | with_reducible exact nZ_rng _ | with_reducible exact nB_rng _ | with_reducible exact wr_rng _ | with_reducible exact i32any _ | (first | omega | with_reducible assumption | (unfold rng; omega) | (unfold rng; (repeat' split) <;> omega) | decide)); refine Rg.sJ g ?_; refine Rg.sI g ?_ (by simp only [rgS]; first | with_reducible exact nZ_rng _ | with_reducible exact nB_rng _ | with_reducible exact wr_rng _ | with_reducible exact i32any _ | (first | omega | with_reducible assumption | (unfold rng; omega) | (unfold rng; (repeat' split) <;> omega) | decide)); refine Rg.sI g ?_ (by simp only [rgS]; first | with_reducible exact nZ_rng _ | with_reducible exact nB_rng _ | with_reducible exact wr_rng _ | with_reducible exact i32any _ | (first | omega | with_reducible assumption | (unfold rng; omega) | (unfold rng; (repeat' split) <;> omega) | decide)); refine Rg.sI g ?_ (by simp only [rgS]; first | with_reducible exact nZ_rng _ | with_reducible exact nB_rng _ | with_reducible exact wr_rng _ | with_reducible exact i32any _ | (first | omega | with_reducible assumption | (unfold rng; omega) | (unfold rng; (repeat' split) <;> omega) | decide)); exact rτ8
                · refine Fr.sI g ?_ (by decide); refine Fr.sJ g ?_ (by decide); refine Fr.sI g ?_ (by decide); refine Fr.sI g ?_ (by decide); refine Fr.sI g ?_ (by decide); exact fτ8
                · first | exact ⟨by (try simp only [rII, rIJ, rIP, rJJ, rJI, rJP, rPP, rPI, rPJ, g1, g2, g3, g4, g5, g6, g7, g8, Nat.reduceEqDiff, Nat.reduceAdd, false_and, and_false, true_and, and_true, reduceIte, nZ0, nZ1, eτ8_2.1, eτ8_2.2, sτ8_6.1, sτ8_6.2, fun a k => (jτ8 a k).1, fun a k => (jτ8 a k).2]) <;> omega, by (try simp only [rII, rIJ, rIP, rJJ, rJI, rJP, rPP, rPI, rPJ, g1, g2, g3, g4, g5, g6, g7, g8, Nat.reduceEqDiff, Nat.reduceAdd, false_and, and_false, true_and, and_true, reduceIte, nZ0, nZ1, eτ8_2.1, eτ8_2.2, sτ8_6.1, sτ8_6.2, fun a k => (jτ8 a k).1, fun a k => (jτ8 a k).2]) <;> omega, by (try simp only [rII, rIJ, rIP, rJJ, rJI, rJP, rPP, rPI, rPJ, g1, g2, g3, g4, g5, g6, g7, g8, Nat.reduceEqDiff, Nat.reduceAdd, false_and, and_false, true_and, and_true, reduceIte, nZ0, nZ1, eτ8_2.1, eτ8_2.2, sτ8_6.1, sτ8_6.2, fun a k => (jτ8 a k).1, fun a k => (jτ8 a k).2]) <;> omega, by (try simp only [rII, rIJ, rIP, rJJ, rJI, rJP, rPP, rPI, rPJ, g1, g2, g3, g4, g5, g6, g7, g8, Nat.reduceEqDiff, Nat.reduceAdd, false_and, and_false, true_and, and_true, reduceIte, nZ0, nZ1, eτ8_2.1, eτ8_2.2, sτ8_6.1, sτ8_6.2, fun a k => (jτ8 a k).1, fun a k => (jτ8 a k).2]) <;> omega, by (try simp only [rII, rIJ, rIP, rJJ, rJI, rJP, rPP, rPI, rPJ, g1, g2, g3, g4, g5, g6, g7, g8, Nat.reduceEqDiff, Nat.reduceAdd, false_and, and_false, true_and, and_true, reduceIte, nZ0, nZ1, eτ8_2.1, eτ8_2.2, sτ8_6.1, sτ8_6.2, fun a k => (jτ8 a k).1, fun a k => (jτ8 a k).2]) <;> omega, fun _ => wl9, by (try simp only [rII, rIJ, rIP, rJJ, rJI, rJP, rPP, rPI, rPJ, g1, g2, g3, g4, g5, g6, g7, g8, Nat.reduceEqDiff, Nat.reduceAdd, false_and, and_false, true_and, and_true, reduceIte, nZ0, nZ1, eτ8_2.1, eτ8_2.2, sτ8_6.1, sτ8_6.2, fun a k => (jτ8 a k).1, fun a k => (jτ8 a k).2]) <;> omega, by (try simp only [rII, rIJ, rIP, rJJ, rJI, rJP, rPP, rPI, rPJ, g1, g2, g3, g4, g5, g6, g7, g8, Nat.reduceEqDiff, Nat.reduceAdd, false_and, and_false, true_and, and_true, reduceIte, nZ0, nZ1, eτ8_2.1, eτ8_2.2, sτ8_6.1, sτ8_6.2, fun a k => (jτ8 a k).1, fun a k => (jτ8 a k).2]) <;> omega⟩ | exact ⟨by (try simp only [rII, rIJ, rIP, rJJ, rJI, rJP, rPP, rPI, rPJ, g1, g2, g3, g4, g5, g6, g7, g8, Nat.reduceEqDiff, Nat.reduceAdd, false_and, and_false, true_and, and_true, reduceIte, nZ0, nZ1, eτ8_2.1, eτ8_2.2, sτ8_6.1, sτ8_6.2, fun a k => (jτ8 a k).1, fun a k => (jτ8 a k).2]) <;> omega, by (try simp only [rII, rIJ, rIP, rJJ, rJI, rJP, rPP, rPI, rPJ, g1, g2, g3, g4, g5, g6, g7, g8, Nat.reduceEqDiff, Nat.reduceAdd, false_and, and_false, true_and, and_true, reduceIte, nZ0, nZ1, eτ8_2.1, eτ8_2.2, sτ8_6.1, sτ8_6.2, fun a k => (jτ8 a k).1, fun a k => (jτ8 a k).2]) <;> omega, by (try simp only [rII, rIJ, rIP, rJJ, rJI, rJP, rPP, rPI, rPJ, g1, g2, g3, g4, g5, g6, g7, g8, Nat.reduceEqDiff, Nat.reduceAdd, false_and, and_false, true_and, and_true, reduceIte, nZ0, nZ1, eτ8_2.1, eτ8_2.2, sτ8_6.1, sτ8_6.2, fun a k => (jτ8 a k).1, fun a k => (jτ8 a k).2]) <;> omega, by (try simp only [rII, rIJ, rIP, rJJ, rJI, rJP, rPP, rPI, rPJ, g1, g2, g3, g4, g5, g6, g7, g8, Nat.reduceEqDiff, Nat.reduceAdd, false_and, and_false, true_and, and_true, reduceIte, nZ0, nZ1, eτ8_2.1, eτ8_2.2, sτ8_6.1, sτ8_6.2, fun a k => (jτ8 a k).1, fun a k => (jτ8 a k).2]) <;> omega, by (try simp only [rII, rIJ, rIP, rJJ, rJI, rJP, rPP, rPI, rPJ, g1, g2, g3, g4, g5, g6, g7, g8, Nat.reduceEqDiff, Nat.reduceAdd, false_and, and_false, true_and, and_true, reduceIte, nZ0, nZ1, eτ8_2.1, eτ8_2.2, sτ8_6.1, sτ8_6.2, fun a k => (jτ8 a k).1, fun a k => (jτ8 a k).2]) <;> omega, fun q => absurd q (by (try simp only [rII, rIJ, rIP, rJJ, rJI, rJP, rPP, rPI, rPJ, g1, g2, g3, g4, g5, g6, g7, g8, Nat.reduceEqDiff, Nat.reduceAdd, false_and, and_false, true_and, and_true, reduceIte, nZ0, nZ1, eτ8_2.1, eτ8_2.2, sτ8_6.1, sτ8_6.2, fun a k => (jτ8 a k).1, fun a k => (jτ8 a k).2]) <;> omega), by (try simp only [rII, rIJ, rIP, rJJ, rJI, rJP, rPP, rPI, rPJ, g1, g2, g3, g4, g5, g6, g7, g8, Nat.reduceEqDiff, Nat.reduceAdd, false_and, and_false, true_and, and_true, reduceIte, nZ0, nZ1, eτ8_2.1, eτ8_2.2, sτ8_6.1, sτ8_6.2, fun a k => (jτ8 a k).1, fun a k => (jτ8 a k).2]) <;> omega, by (try simp only [rII, rIJ, rIP, rJJ, rJI, rJP, rPP, rPI, rPJ, g1, g2, g3, g4, g5, g6, g7, g8, Nat.reduceEqDiff, Nat.reduceAdd, false_and, and_false, true_and, and_true, reduceIte, nZ0, nZ1, eτ8_2.1, eτ8_2.2, sτ8_6.1, sτ8_6.2, fun a k => (jτ8 a k).1, fun a k => (jτ8 a k).2]) <;> omega⟩
            · rename_i hc66
              skip
              unfold w_X16_see_69
              try simp only [forall_eq, rII, rIJ, rIP, rJJ, rJI, rJP, rPP, rPI, rPJ, g1, g2, g3, g4, g5, g6, g7, g8, Nat.reduceEqDiff, Nat.reduceAdd, false_and, and_false, true_and, and_true, reduceIte, nZ0, nZ1, eτ8_2.1, eτ8_2.2, sτ8_6.1, sτ8_6.2, fun a k => (jτ8 a k).1, fun a k => (jτ8 a k).2]
              refine hQ _ _ ?_ ?_ ?_
              · refine Rg.sI g ?_ (by simp only [rgS]; first | with_reducible exact nZ_rng _ | with_reducible exact nB_rng _ | with_reducible exact wr_rng _ | with_reducible exact i32any _ | (first | omega | with_reducible assumption | (unfold rng; omega) | (unfold rng; (repeat' split) <;> omega) | decide)); refine Rg.sI g ?_ (by simp only [rgS]; first | with_reducible exact nZ_rng _ | with_reducible exact nB_rng _ | with_reducible exact wr_rng _ | with_reducible exact i32any _ | (first | omega | with_reducible assumption | (unfold rng; omega) | (unfold rng; (repeat' split) <;> omega) | decide)); refine Rg.sI g ?_ (by simp only [rgS]; first | with_reducible exact nZ_rng _ | with_reducible exact nB_rng _ | with_reducible exact wr_rng _ | with_reducible exact i32any _ | (first | omega | with_reducible assumption | (unfold rng; omega) | (unfold rng; (repeat' split) <;> omega) | decide)); exact rτ8
              · refine Fr.sI g ?_ (by decide); refine Fr.sI g ?_ (by decide); refine Fr.sI g ?_ (by decide); exact fτ8
              · first | exact ⟨hps, Int.le_refl _, by omega⟩ | (unfold PsI cn; refine ⟨⟨?_, fun q => ⟨?_, fun q2 => ?_⟩⟩, ?_, ?_⟩ <;> first | ((try simp only [rII, rIJ, rIP, rJJ, rJI, rJP, rPP, rPI, rPJ, g1, g2, g3, g4, g5, g6, g7, g8, Nat.reduceEqDiff, Nat.reduceAdd, false_and, and_false, true_and, and_true, reduceIte, nZ0, nZ1, eτ8_2.1, eτ8_2.2, sτ8_6.1, sτ8_6.2, fun a k => (jτ8 a k).1, fun a k => (jτ8 a k).2]) <;> first | omega | (split <;> omega)) | (simp only [rII, rIJ, rIP, rJJ, rJI, rJP, rPP, rPI, rPJ, g1, g2, g3, g4, g5, g6, g7, g8, Nat.reduceEqDiff, Nat.reduceAdd, false_and, and_false, true_and, and_true, reduceIte, nZ0, nZ1, eτ8_2.1, eτ8_2.2, sτ8_6.1, sτ8_6.2, fun a k => (jτ8 a k).1, fun a k => (jτ8 a k).2] at q2; omega) | (exact absurd (by simp only [rII, rIJ, rIP, rJJ, rJI, rJP, rPP, rPI, rPJ, g1, g2, g3, g4, g5, g6, g7, g8, Nat.reduceEqDiff, Nat.reduceAdd, false_and, and_false, true_and, and_true, reduceIte, nZ0, nZ1, eτ8_2.1, eτ8_2.2, sτ8_6.1, sτ8_6.2, fun a k => (jτ8 a k).1, fun a k => (jτ8 a k).2]) q2))
          · rename_i hc29
            skip
            unfold w_X16_see_32
            try simp only [forall_eq, rII, rIJ, rIP, rJJ, rJI, rJP, rPP, rPI, rPJ, g1, g2, g3, g4, g5, g6, g7, g8, Nat.reduceEqDiff, Nat.reduceAdd, false_and, and_false, true_and, and_true, reduceIte, nZ0, nZ1, eτ8_2.1, eτ8_2.2, sτ8_6.1, sτ8_6.2, fun a k => (jτ8 a k).1, fun a k => (jτ8 a k).2]
            refine ⟨by (first | omega | with_reducible assumption | (unfold rng; omega) | (unfold rng; (repeat' split) <;> omega) | decide), ?_⟩
            refine ih8 _ ?_ ?_ ?_ ?_
            · refine Rg.sI g ?_ (by simp only [rgS]; first | with_reducible exact nZ_rng _ | with_reducible exact nB_rng _ | with_reducible exact wr_rng _ | with_reducible exact i32any _ | (first | omega | with_reducible assumption | (unfold rng; omega) | (unfold rng; (repeat' split) <;> omega) | decide)); exact rτ8
            · refine Fr.sI g ?_ (by decide); exact fτ8
            · (try simp only [rII, rIJ, rIP, rJJ, rJI, rJP, rPP, rPI, rPJ, g1, g2, g3, g4, g5, g6, g7, g8, Nat.reduceEqDiff, Nat.reduceAdd, false_and, and_false, true_and, and_true, reduceIte, nZ0, nZ1, eτ8_2.1, eτ8_2.2, sτ8_6.1, sτ8_6.2, fun a k => (jτ8 a k).1, fun a k => (jτ8 a k).2]) <;> (first | omega | with_reducible assumption | (unfold rng; omega) | (unfold rng; (repeat' split) <;> omega) | decide)
            · (try simp only [rII, rIJ, rIP, rJJ, rJI, rJP, rPP, rPI, rPJ, g1, g2, g3, g4, g5, g6, g7, g8, Nat.reduceEqDiff, Nat.reduceAdd, false_and, and_false, true_and, and_true, reduceIte, nZ0, nZ1, eτ8_2.1, eτ8_2.2, sτ8_6.1, sτ8_6.2, fun a k => (jτ8 a k).1, fun a k => (jτ8 a k).2]) <;> (first | omega | with_reducible assumption | (unfold rng; omega) | (unfold rng; (repeat' split) <;> omega) | decide)
    refine ⟨_, L8 _ _ ?_ ?_ ?_ (Nat.lt_succ_self _)⟩
    · exact rσ
    · exact fσ
    · (try simp only [rII, rIJ, rIP, rJJ, rJI, rJP, rPP, rPI, rPJ, g1, g2, g3, g4, g5, g6, g7, g8, Nat.reduceEqDiff, Nat.reduceAdd, false_and, and_false, true_and, and_true, reduceIte, nZ0, nZ1]) <;> (first | omega | with_reducible assumption | (unfold rng; omega) | (unfold rng; (repeat' split) <;> omega) | decide)
  · rename_i hc4
    skip
    unfold w_X16_see_7
    try simp only [forall_eq, rII, rIJ, rIP, rJJ, rJI, rJP, rPP, rPI, rPJ, g1, g2, g3, g4, g5, g6, g7, g8, Nat.reduceEqDiff, Nat.reduceAdd, false_and, and_false, true_and, and_true, reduceIte, nZ0, nZ1]
    refine hQ _ _ ?_ ?_ ?_
    · exact rσ
    · exact fσ
    · first | exact ⟨hps, Int.le_refl _, by omega⟩ | (unfold PsI cn; refine ⟨⟨?_, fun q => ⟨?_, fun q2 => ?_⟩⟩, ?_, ?_⟩ <;> first | ((try simp only [rII, rIJ, rIP, rJJ, rJI, rJP, rPP, rPI, rPJ, g1, g2, g3, g4, g5, g6, g7, g8, Nat.reduceEqDiff, Nat.reduceAdd, false_and, and_false, true_and, and_true, reduceIte, nZ0, nZ1]) <;> first | omega | (split <;> omega)) | (simp only [rII, rIJ, rIP, rJJ, rJI, rJP, rPP, rPI, rPJ, g1, g2, g3, g4, g5, g6, g7, g8, Nat.reduceEqDiff, Nat.reduceAdd, false_and, and_false, true_and, and_true, reduceIte, nZ0, nZ1] at q2; omega) | (exact absurd (by simp only [rII, rIJ, rIP, rJJ, rJI, rJP, rPP, rPI, rPJ, g1, g2, g3, g4, g5, g6, g7, g8, Nat.reduceEqDiff, Nat.reduceAdd, false_and, and_false, true_and, and_true, reduceIte, nZ0, nZ1]) q2))
set_option maxHeartbeats 2000000 in
theorem s2_X16_take {ra : Nat → Nat} {jx : Nat → Nat → Nat} {rm : Nat} (g : Geo ra jx rm) {σ : Sg} (rσ : Rg ra jx rm σ) (hps : PsI rm σ) (h8 : gI σ rm 8 = 1) (h9 : gI σ rm 9 ≠ 3) {Q : Sg → Unit → Prop} {X : Sg → String → Prop} (hQ : ∀ (σ' : Sg) (r : Unit), Rg ra jx rm σ' → Fr ra jx rm [] [8] σ σ' → (PsI rm σ' ∧ cn rm σ + 1 ≤ cn rm σ' ∧ gI σ' rm 8 = 0) → Q σ' r) : wp_X16_take ra jx rm σ Q X := by
  obtain ⟨g1, g2, g3, g4, g5, g6, g7, g8⟩ := id g
  have fσ : Fr ra jx rm [] [8] σ σ := Fr.rf
  unfold wp_X16_take
  unfold w_X16_take_0
  try simp only [forall_eq, rII, rIJ, rIP, rJJ, rJI, rJP, rPP, rPI, rPJ, g1, g2, g3, g4, g5, g6, g7, g8, Nat.reduceEqDiff, Nat.reduceAdd, false_and, and_false, true_and, and_true, reduceIte, nZ0, nZ1]
  refine hQ _ _ ?_ ?_ ?_
  · refine Rg.sI g ?_ (by simp only [rgS]; first | with_reducible exact nZ_rng _ | with_reducible exact nB_rng _ | with_reducible exact wr_rng _ | with_reducible exact i32any _ | (first | omega | with_reducible assumption | (unfold rng; omega) | (unfold rng; (repeat' split) <;> omega) | grind)); exact rσ
  · refine Fr.sI g ?_ (by decide); exact fσ
  · have w := cn_take (σ' := pI σ rm 8 0) hps h8 h9 (by simp only [rII, rIJ, rIP, rJJ, rJI, rJP, rPP, rPI, rPJ, g1, g2, g3, g4, g5, g6, g7, g8, Nat.reduceEqDiff, Nat.reduceAdd, false_and, and_false, true_and, and_true, reduceIte, nZ0, nZ1]) (by simp only [rII, rIJ, rIP, rJJ, rJI, rJP, rPP, rPI, rPJ, g1, g2, g3, g4, g5, g6, g7, g8, Nat.reduceEqDiff, Nat.reduceAdd, false_and, and_false, true_and, and_true, reduceIte, nZ0, nZ1]) (by simp only [rII, rIJ, rIP, rJJ, rJI, rJP, rPP, rPI, rPJ, g1, g2, g3, g4, g5, g6, g7, g8, Nat.reduceEqDiff, Nat.reduceAdd, false_and, and_false, true_and, and_true, reduceIte, nZ0, nZ1]); exact ⟨w.1, w.2, by simp only [rII, rIJ, rIP, rJJ, rJI, rJP, rPP, rPI, rPJ, g1, g2, g3, g4, g5, g6, g7, g8, Nat.reduceEqDiff, Nat.reduceAdd, false_and, and_false, true_and, and_true, reduceIte, nZ0, nZ1]⟩
set_option maxHeartbeats 4000000 in
theorem s2_X16_isWord {ra : Nat → Nat} {jx : Nat → Nat → Nat} {rm : Nat} (g : Geo ra jx rm) {σ : Sg} {v1 : Nat} (rσ : Rg ra jx rm σ) (hps : PsI rm σ) {Q : Sg → Int → Prop} {X : Sg → String → Prop} (hQ : ∀ (σ' : Sg) (r : Int), Rg ra jx rm σ' → Fr ra jx rm [] [4, 5, 7, 8, 9, 10, 11, 12, 13] σ σ' → (PsI rm σ' ∧ cn rm σ ≤ cn rm σ' ∧ gI σ' rm 8 = 1 ∧ (r = 0 ∨ r = 1) ∧ (r = 1 → gI σ' rm 9 = 1)) → Q σ' r) (hX : ∀ (σ' : Sg) (E : String), Rg ra jx rm σ' → Fr ra jx rm [] [4, 5, 7, 8, 9, 10, 11, 12, 13] σ σ' → (E = "StreamHouseModel$Fault") → X σ' E) : wp_X16_isWord ra jx rm v1 σ Q X := by
  obtain ⟨g1, g2, g3, g4, g5, g6, g7, g8⟩ := id g
  have fσ : Fr ra jx rm [] [4, 5, 7, 8, 9, 10, 11, 12, 13] σ σ := Fr.rf
  have ps9 := hps
  unfold wp_X16_isWord
  unfold w_X16_isWord_0
  try simp only [forall_eq, rII, rIJ, rIP, rJJ, rJI, rJP, rPP, rPI, rPJ, g1, g2, g3, g4, g5, g6, g7, g8, Nat.reduceEqDiff, Nat.reduceAdd, false_and, and_false, true_and, and_true, reduceIte, nZ0, nZ1]
  refine s2_X16_see g rσ (by exact ps9) (fun σ7 _ rσ7 fc p1 => ?_) (fun σx E rx fx px => hX _ _ rx (Fr.tr fσ (Fr.mor (fx) (by decide) (by decide))) px)
  have fσ7 : Fr ra jx rm [] [4, 5, 7, 8, 9, 10, 11, 12, 13] σ σ7 := Fr.tr fσ (Fr.mor (fc) (by decide) (by decide))
  have ps9 := p1.1; have cq9 := p1.2
  have sσ7_6 := fσ7.2.1 6 (by decide)
  have jσ7 := fσ7.2.2.1
  try simp only [rII, rIJ, rIP, rJJ, rJI, rJP, rPP, rPI, rPJ, g1, g2, g3, g4, g5, g6, g7, g8, Nat.reduceEqDiff, Nat.reduceAdd, false_and, and_false, true_and, and_true, reduceIte, nZ0, nZ1, sσ7_6.1, sσ7_6.2, fun a k => (jσ7 a k).1, fun a k => (jσ7 a k).2] at p1
  try simp only [forall_eq, rII, rIJ, rIP, rJJ, rJI, rJP, rPP, rPI, rPJ, g1, g2, g3, g4, g5, g6, g7, g8, Nat.reduceEqDiff, Nat.reduceAdd, false_and, and_false, true_and, and_true, reduceIte, nZ0, nZ1, sσ7_6.1, sσ7_6.2, fun a k => (jσ7 a k).1, fun a k => (jσ7 a k).2]
  have q2 := rσ7.2.1 9; simp only [rgS] at q2
  split
  · rename_i hc9
    skip
    unfold w_X16_isWord_39
    try simp only [forall_eq, rII, rIJ, rIP, rJJ, rJI, rJP, rPP, rPI, rPJ, g1, g2, g3, g4, g5, g6, g7, g8, Nat.reduceEqDiff, Nat.reduceAdd, false_and, and_false, true_and, and_true, reduceIte, nZ0, nZ1, sσ7_6.1, sσ7_6.2, fun a k => (jσ7 a k).1, fun a k => (jσ7 a k).2]
    unfold w_X16_isWord_40
    try simp only [forall_eq, rII, rIJ, rIP, rJJ, rJI, rJP, rPP, rPI, rPJ, g1, g2, g3, g4, g5, g6, g7, g8, Nat.reduceEqDiff, Nat.reduceAdd, false_and, and_false, true_and, and_true, reduceIte, nZ0, nZ1, sσ7_6.1, sσ7_6.2, fun a k => (jσ7 a k).1, fun a k => (jσ7 a k).2]
    refine ⟨by (first | omega | with_reducible assumption | (unfold rng; omega) | (unfold rng; (repeat' split) <;> omega) | decide), ?_⟩
    refine hQ _ _ ?_ ?_ ?_
    · exact rσ7
    · exact fσ7
    · exact ⟨ps9, by omega, by omega, by omega, fun q => by omega⟩
  · rename_i hc9
    skip
    unfold w_X16_isWord_12
    try simp only [forall_eq, rII, rIJ, rIP, rJJ, rJI, rJP, rPP, rPI, rPJ, g1, g2, g3, g4, g5, g6, g7, g8, Nat.reduceEqDiff, Nat.reduceAdd, false_and, and_false, true_and, and_true, reduceIte, nZ0, nZ1, sσ7_6.1, sσ7_6.2, fun a k => (jσ7 a k).1, fun a k => (jσ7 a k).2]
    have q3 := rσ7.2.1 12; simp only [rgS] at q3
    split
    · rename_i hc20
      skip
      unfold w_X16_isWord_39
      try simp only [forall_eq, rII, rIJ, rIP, rJJ, rJI, rJP, rPP, rPI, rPJ, g1, g2, g3, g4, g5, g6, g7, g8, Nat.reduceEqDiff, Nat.reduceAdd, false_and, and_false, true_and, and_true, reduceIte, nZ0, nZ1, sσ7_6.1, sσ7_6.2, fun a k => (jσ7 a k).1, fun a k => (jσ7 a k).2]
      unfold w_X16_isWord_40
      try simp only [forall_eq, rII, rIJ, rIP, rJJ, rJI, rJP, rPP, rPI, rPJ, g1, g2, g3, g4, g5, g6, g7, g8, Nat.reduceEqDiff, Nat.reduceAdd, false_and, and_false, true_and, and_true, reduceIte, nZ0, nZ1, sσ7_6.1, sσ7_6.2, fun a k => (jσ7 a k).1, fun a k => (jσ7 a k).2]
      refine ⟨by (first | omega | with_reducible assumption | (unfold rng; omega) | (unfold rng; (repeat' split) <;> omega) | decide), ?_⟩
      refine hQ _ _ ?_ ?_ ?_
      · exact rσ7
      · exact fσ7
      · exact ⟨ps9, by omega, by omega, by omega, fun q => by omega⟩
    · rename_i hc20
      skip
      unfold w_X16_isWord_23
      try simp only [forall_eq, rII, rIJ, rIP, rJJ, rJI, rJP, rPP, rPI, rPJ, g1, g2, g3, g4, g5, g6, g7, g8, Nat.reduceEqDiff, Nat.reduceAdd, false_and, and_false, true_and, and_true, reduceIte, nZ0, nZ1, sσ7_6.1, sσ7_6.2, fun a k => (jσ7 a k).1, fun a k => (jσ7 a k).2]
      refine s_X16_nameOf g rσ7 (fun r9 p4 => ?_)
      try simp only [rII, rIJ, rIP, rJJ, rJI, rJP, rPP, rPI, rPJ, g1, g2, g3, g4, g5, g6, g7, g8, Nat.reduceEqDiff, Nat.reduceAdd, false_and, and_false, true_and, and_true, reduceIte, nZ0, nZ1, sσ7_6.1, sσ7_6.2, fun a k => (jσ7 a k).1, fun a k => (jσ7 a k).2] at p4
      try simp only [forall_eq, rII, rIJ, rIP, rJJ, rJI, rJP, rPP, rPI, rPJ, g1, g2, g3, g4, g5, g6, g7, g8, Nat.reduceEqDiff, Nat.reduceAdd, false_and, and_false, true_and, and_true, reduceIte, nZ0, nZ1, sσ7_6.1, sσ7_6.2, fun a k => (jσ7 a k).1, fun a k => (jσ7 a k).2]
      split
      · rename_i hc32
        skip
        unfold w_X16_isWord_39
        try simp only [forall_eq, rII, rIJ, rIP, rJJ, rJI, rJP, rPP, rPI, rPJ, g1, g2, g3, g4, g5, g6, g7, g8, Nat.reduceEqDiff, Nat.reduceAdd, false_and, and_false, true_and, and_true, reduceIte, nZ0, nZ1, sσ7_6.1, sσ7_6.2, fun a k => (jσ7 a k).1, fun a k => (jσ7 a k).2]
        unfold w_X16_isWord_40
        try simp only [forall_eq, rII, rIJ, rIP, rJJ, rJI, rJP, rPP, rPI, rPJ, g1, g2, g3, g4, g5, g6, g7, g8, Nat.reduceEqDiff, Nat.reduceAdd, false_and, and_false, true_and, and_true, reduceIte, nZ0, nZ1, sσ7_6.1, sσ7_6.2, fun a k => (jσ7 a k).1, fun a k => (jσ7 a k).2]
        refine ⟨by (first | omega | with_reducible assumption | (unfold rng; omega) | (unfold rng; (repeat' split) <;> omega) | decide), ?_⟩
        refine hQ _ _ ?_ ?_ ?_
        · exact rσ7
        · exact fσ7
        · exact ⟨ps9, by omega, by omega, by omega, fun q => by omega⟩
      · rename_i hc32
        skip
        unfold w_X16_isWord_35
        try simp only [forall_eq, rII, rIJ, rIP, rJJ, rJI, rJP, rPP, rPI, rPJ, g1, g2, g3, g4, g5, g6, g7, g8, Nat.reduceEqDiff, Nat.reduceAdd, false_and, and_false, true_and, and_true, reduceIte, nZ0, nZ1, sσ7_6.1, sσ7_6.2, fun a k => (jσ7 a k).1, fun a k => (jσ7 a k).2]
        unfold w_X16_isWord_40
        try simp only [forall_eq, rII, rIJ, rIP, rJJ, rJI, rJP, rPP, rPI, rPJ, g1, g2, g3, g4, g5, g6, g7, g8, Nat.reduceEqDiff, Nat.reduceAdd, false_and, and_false, true_and, and_true, reduceIte, nZ0, nZ1, sσ7_6.1, sσ7_6.2, fun a k => (jσ7 a k).1, fun a k => (jσ7 a k).2]
        refine ⟨by (first | omega | with_reducible assumption | (unfold rng; omega) | (unfold rng; (repeat' split) <;> omega) | decide), ?_⟩
        refine hQ _ _ ?_ ?_ ?_
        · exact rσ7
        · exact fσ7
        · exact ⟨ps9, by omega, by omega, by omega, fun q => by omega⟩
set_option maxHeartbeats 4000000 in
theorem s2_X16_isName {ra : Nat → Nat} {jx : Nat → Nat → Nat} {rm : Nat} (g : Geo ra jx rm) {σ : Sg} (rσ : Rg ra jx rm σ) (hps : PsI rm σ) {Q : Sg → Int → Prop} {X : Sg → String → Prop} (hQ : ∀ (σ' : Sg) (r : Int), Rg ra jx rm σ' → Fr ra jx rm [] [4, 5, 7, 8, 9, 10, 11, 12, 13] σ σ' → (PsI rm σ' ∧ cn rm σ ≤ cn rm σ' ∧ gI σ' rm 8 = 1 ∧ (r = 0 ∨ r = 1) ∧ (r = 1 → gI σ' rm 9 = 1)) → Q σ' r) (hX : ∀ (σ' : Sg) (E : String), Rg ra jx rm σ' → Fr ra jx rm [] [4, 5, 7, 8, 9, 10, 11, 12, 13] σ σ' → (E = "StreamHouseModel$Fault") → X σ' E) : wp_X16_isName ra jx rm σ Q X := by
  obtain ⟨g1, g2, g3, g4, g5, g6, g7, g8⟩ := id g
  have fσ : Fr ra jx rm [] [4, 5, 7, 8, 9, 10, 11, 12, 13] σ σ := Fr.rf
  have ps9 := hps
  unfold wp_X16_isName
  unfold w_X16_isName_0
  try simp only [forall_eq, rII, rIJ, rIP, rJJ, rJI, rJP, rPP, rPI, rPJ, g1, g2, g3, g4, g5, g6, g7, g8, Nat.reduceEqDiff, Nat.reduceAdd, false_and, and_false, true_and, and_true, reduceIte, nZ0, nZ1]
  refine s2_X16_see g rσ (by exact ps9) (fun σ7 _ rσ7 fc p1 => ?_) (fun σx E rx fx px => hX _ _ rx (Fr.tr fσ (Fr.mor (fx) (by decide) (by decide))) px)
  have fσ7 : Fr ra jx rm [] [4, 5, 7, 8, 9, 10, 11, 12, 13] σ σ7 := Fr.tr fσ (Fr.mor (fc) (by decide) (by decide))
  have ps9 := p1.1; have cq9 := p1.2
  have sσ7_6 := fσ7.2.1 6 (by decide)
  have jσ7 := fσ7.2.2.1
  try simp only [rII, rIJ, rIP, rJJ, rJI, rJP, rPP, rPI, rPJ, g1, g2, g3, g4, g5, g6, g7, g8, Nat.reduceEqDiff, Nat.reduceAdd, false_and, and_false, true_and, and_true, reduceIte, nZ0, nZ1, sσ7_6.1, sσ7_6.2, fun a k => (jσ7 a k).1, fun a k => (jσ7 a k).2] at p1
  try simp only [forall_eq, rII, rIJ, rIP, rJJ, rJI, rJP, rPP, rPI, rPJ, g1, g2, g3, g4, g5, g6, g7, g8, Nat.reduceEqDiff, Nat.reduceAdd, false_and, and_false, true_and, and_true, reduceIte, nZ0, nZ1, sσ7_6.1, sσ7_6.2, fun a k => (jσ7 a k).1, fun a k => (jσ7 a k).2]
  have q2 := rσ7.2.1 9; simp only [rgS] at q2
  split
  · rename_i hc9
    skip
    unfold w_X16_isName_36
    try simp only [forall_eq, rII, rIJ, rIP, rJJ, rJI, rJP, rPP, rPI, rPJ, g1, g2, g3, g4, g5, g6, g7, g8, Nat.reduceEqDiff, Nat.reduceAdd, false_and, and_false, true_and, and_true, reduceIte, nZ0, nZ1, sσ7_6.1, sσ7_6.2, fun a k => (jσ7 a k).1, fun a k => (jσ7 a k).2]
    unfold w_X16_isName_37
    try simp only [forall_eq, rII, rIJ, rIP, rJJ, rJI, rJP, rPP, rPI, rPJ, g1, g2, g3, g4, g5, g6, g7, g8, Nat.reduceEqDiff, Nat.reduceAdd, false_and, and_false, true_and, and_true, reduceIte, nZ0, nZ1, sσ7_6.1, sσ7_6.2, fun a k => (jσ7 a k).1, fun a k => (jσ7 a k).2]
    refine ⟨by (first | omega | with_reducible assumption | (unfold rng; omega) | (unfold rng; (repeat' split) <;> omega) | decide), ?_⟩
    refine hQ _ _ ?_ ?_ ?_
    · exact rσ7
    · exact fσ7
    · exact ⟨ps9, by omega, by omega, by omega, fun q => by omega⟩
  · rename_i hc9
    skip
    unfold w_X16_isName_12
    try simp only [forall_eq, rII, rIJ, rIP, rJJ, rJI, rJP, rPP, rPI, rPJ, g1, g2, g3, g4, g5, g6, g7, g8, Nat.reduceEqDiff, Nat.reduceAdd, false_and, and_false, true_and, and_true, reduceIte, nZ0, nZ1, sσ7_6.1, sσ7_6.2, fun a k => (jσ7 a k).1, fun a k => (jσ7 a k).2]
    have q3 := rσ7.2.1 12; simp only [rgS] at q3
    split
    · rename_i hc18
      skip
      unfold w_X16_isName_36
      try simp only [forall_eq, rII, rIJ, rIP, rJJ, rJI, rJP, rPP, rPI, rPJ, g1, g2, g3, g4, g5, g6, g7, g8, Nat.reduceEqDiff, Nat.reduceAdd, false_and, and_false, true_and, and_true, reduceIte, nZ0, nZ1, sσ7_6.1, sσ7_6.2, fun a k => (jσ7 a k).1, fun a k => (jσ7 a k).2]
      unfold w_X16_isName_37
      try simp only [forall_eq, rII, rIJ, rIP, rJJ, rJI, rJP, rPP, rPI, rPJ, g1, g2, g3, g4, g5, g6, g7, g8, Nat.reduceEqDiff, Nat.reduceAdd, false_and, and_false, true_and, and_true, reduceIte, nZ0, nZ1, sσ7_6.1, sσ7_6.2, fun a k => (jσ7 a k).1, fun a k => (jσ7 a k).2]
      refine ⟨by (first | omega | with_reducible assumption | (unfold rng; omega) | (unfold rng; (repeat' split) <;> omega) | decide), ?_⟩
      refine hQ _ _ ?_ ?_ ?_
      · exact rσ7
      · exact fσ7
      · exact ⟨ps9, by omega, by omega, by omega, fun q => by omega⟩
    · rename_i hc18
      skip
      unfold w_X16_isName_21
      try simp only [forall_eq, rII, rIJ, rIP, rJJ, rJI, rJP, rPP, rPI, rPJ, g1, g2, g3, g4, g5, g6, g7, g8, Nat.reduceEqDiff, Nat.reduceAdd, false_and, and_false, true_and, and_true, reduceIte, nZ0, nZ1, sσ7_6.1, sσ7_6.2, fun a k => (jσ7 a k).1, fun a k => (jσ7 a k).2]
      refine s_X16_isKeyword g rσ7 (fun r9 p4 => ?_)
      try simp only [rII, rIJ, rIP, rJJ, rJI, rJP, rPP, rPI, rPJ, g1, g2, g3, g4, g5, g6, g7, g8, Nat.reduceEqDiff, Nat.reduceAdd, false_and, and_false, true_and, and_true, reduceIte, nZ0, nZ1, sσ7_6.1, sσ7_6.2, fun a k => (jσ7 a k).1, fun a k => (jσ7 a k).2] at p4
      try simp only [forall_eq, rII, rIJ, rIP, rJJ, rJI, rJP, rPP, rPI, rPJ, g1, g2, g3, g4, g5, g6, g7, g8, Nat.reduceEqDiff, Nat.reduceAdd, false_and, and_false, true_and, and_true, reduceIte, nZ0, nZ1, sσ7_6.1, sσ7_6.2, fun a k => (jσ7 a k).1, fun a k => (jσ7 a k).2]
      split
      · rename_i hc29
        skip
        unfold w_X16_isName_36
        try simp only [forall_eq, rII, rIJ, rIP, rJJ, rJI, rJP, rPP, rPI, rPJ, g1, g2, g3, g4, g5, g6, g7, g8, Nat.reduceEqDiff, Nat.reduceAdd, false_and, and_false, true_and, and_true, reduceIte, nZ0, nZ1, sσ7_6.1, sσ7_6.2, fun a k => (jσ7 a k).1, fun a k => (jσ7 a k).2]
        unfold w_X16_isName_37
        try simp only [forall_eq, rII, rIJ, rIP, rJJ, rJI, rJP, rPP, rPI, rPJ, g1, g2, g3, g4, g5, g6, g7, g8, Nat.reduceEqDiff, Nat.reduceAdd, false_and, and_false, true_and, and_true, reduceIte, nZ0, nZ1, sσ7_6.1, sσ7_6.2, fun a k => (jσ7 a k).1, fun a k => (jσ7 a k).2]
        refine ⟨by (first | omega | with_reducible assumption | (unfold rng; omega) | (unfold rng; (repeat' split) <;> omega) | decide), ?_⟩
        refine hQ _ _ ?_ ?_ ?_
        · exact rσ7
        · exact fσ7
        · exact ⟨ps9, by omega, by omega, by omega, fun q => by omega⟩
      · rename_i hc29
        skip
        unfold w_X16_isName_32
        try simp only [forall_eq, rII, rIJ, rIP, rJJ, rJI, rJP, rPP, rPI, rPJ, g1, g2, g3, g4, g5, g6, g7, g8, Nat.reduceEqDiff, Nat.reduceAdd, false_and, and_false, true_and, and_true, reduceIte, nZ0, nZ1, sσ7_6.1, sσ7_6.2, fun a k => (jσ7 a k).1, fun a k => (jσ7 a k).2]
        unfold w_X16_isName_37
        try simp only [forall_eq, rII, rIJ, rIP, rJJ, rJI, rJP, rPP, rPI, rPJ, g1, g2, g3, g4, g5, g6, g7, g8, Nat.reduceEqDiff, Nat.reduceAdd, false_and, and_false, true_and, and_true, reduceIte, nZ0, nZ1, sσ7_6.1, sσ7_6.2, fun a k => (jσ7 a k).1, fun a k => (jσ7 a k).2]
        refine ⟨by (first | omega | with_reducible assumption | (unfold rng; omega) | (unfold rng; (repeat' split) <;> omega) | decide), ?_⟩
        refine hQ _ _ ?_ ?_ ?_
        · exact rσ7
        · exact fσ7
        · exact ⟨ps9, by omega, by omega, by omega, fun q => by omega⟩
set_option maxHeartbeats 4000000 in
theorem s2_X16_seeName {ra : Nat → Nat} {jx : Nat → Nat → Nat} {rm : Nat} (g : Geo ra jx rm) {σ : Sg} (rσ : Rg ra jx rm σ) (hps : PsI rm σ) {Q : Sg → Int64 → Prop} {X : Sg → String → Prop} (hQ : ∀ (σ' : Sg) (r : Int64), Rg ra jx rm σ' → Fr ra jx rm [] [4, 5, 7, 8, 9, 10, 11, 12, 13] σ σ' → (PsI rm σ' ∧ cn rm σ ≤ cn rm σ' ∧ gI σ' rm 8 = 1 ∧ gI σ' rm 9 = 1) → Q σ' r) (hX : ∀ (σ' : Sg) (E : String), Rg ra jx rm σ' → Fr ra jx rm [] [4, 5, 7, 8, 9, 10, 11, 12, 13] σ σ' → (E = "StreamHouseModel$Fault") → X σ' E) : wp_X16_seeName ra jx rm σ Q X := by
  obtain ⟨g1, g2, g3, g4, g5, g6, g7, g8⟩ := id g
  have fσ : Fr ra jx rm [] [4, 5, 7, 8, 9, 10, 11, 12, 13] σ σ := Fr.rf
  have ps9 := hps
  unfold wp_X16_seeName
  unfold w_X16_seeName_0
  try simp only [forall_eq, rII, rIJ, rIP, rJJ, rJI, rJP, rPP, rPI, rPJ, g1, g2, g3, g4, g5, g6, g7, g8, Nat.reduceEqDiff, Nat.reduceAdd, false_and, and_false, true_and, and_true, reduceIte, nZ0, nZ1]
  refine s2_X16_isName g rσ (by exact ps9) (fun σ9 r10 rσ9 fc p1 => ?_) (fun σx E rx fx px => hX _ _ rx (Fr.tr fσ (Fr.mor (fx) (by decide) (by decide))) px)
  have fσ9 : Fr ra jx rm [] [4, 5, 7, 8, 9, 10, 11, 12, 13] σ σ9 := Fr.tr fσ (Fr.mor (fc) (by decide) (by decide))
  have ps9 := p1.1; have cq9 := p1.2
  have sσ9_6 := fσ9.2.1 6 (by decide)
  have jσ9 := fσ9.2.2.1
  try simp only [rII, rIJ, rIP, rJJ, rJI, rJP, rPP, rPI, rPJ, g1, g2, g3, g4, g5, g6, g7, g8, Nat.reduceEqDiff, Nat.reduceAdd, false_and, and_false, true_and, and_true, reduceIte, nZ0, nZ1, sσ9_6.1, sσ9_6.2, fun a k => (jσ9 a k).1, fun a k => (jσ9 a k).2] at p1
  try simp only [forall_eq, rII, rIJ, rIP, rJJ, rJI, rJP, rPP, rPI, rPJ, g1, g2, g3, g4, g5, g6, g7, g8, Nat.reduceEqDiff, Nat.reduceAdd, false_and, and_false, true_and, and_true, reduceIte, nZ0, nZ1, sσ9_6.1, sσ9_6.2, fun a k => (jσ9 a k).1, fun a k => (jσ9 a k).2]
  split
  · rename_i hc4
    skip
    unfold w_X16_seeName_12
    try simp only [forall_eq, rII, rIJ, rIP, rJJ, rJI, rJP, rPP, rPI, rPJ, g1, g2, g3, g4, g5, g6, g7, g8, Nat.reduceEqDiff, Nat.reduceAdd, false_and, and_false, true_and, and_true, reduceIte, nZ0, nZ1, sσ9_6.1, sσ9_6.2, fun a k => (jσ9 a k).1, fun a k => (jσ9 a k).2]
    refine hQ _ _ ?_ ?_ ?_
    · exact rσ9
    · exact fσ9
    · exact ⟨ps9, by omega, by omega, by omega⟩
  · rename_i hc4
    skip
    unfold w_X16_seeName_7
    try simp only [forall_eq, rII, rIJ, rIP, rJJ, rJI, rJP, rPP, rPI, rPJ, g1, g2, g3, g4, g5, g6, g7, g8, Nat.reduceEqDiff, Nat.reduceAdd, false_and, and_false, true_and, and_true, reduceIte, nZ0, nZ1, sσ9_6.1, sσ9_6.2, fun a k => (jσ9 a k).1, fun a k => (jσ9 a k).2]
    refine s_X16_misplaced g rσ9 (fun σ11 r12 rσ11 fc p2 => ?_)
    have fσ11 : Fr ra jx rm [] [4, 5, 7, 8, 9, 10, 11, 12, 13] σ σ11 := Fr.tr fσ9 (Fr.mor (fc) (by decide) (by decide))
    have cσ11_7 := fc.2.1 7 (by decide)
    have cσ11_8 := fc.2.1 8 (by decide)
    have cσ11_9 := fc.2.1 9 (by decide)
    have cσ11_10 := fc.2.1 10 (by decide)
    have cσ11_11 := fc.2.1 11 (by decide)
    have cσ11_13 := fc.2.1 13 (by decide)
    have sσ11_6 := fσ11.2.1 6 (by decide)
    have jσ11 := fσ11.2.2.1
    try simp only [rII, rIJ, rIP, rJJ, rJI, rJP, rPP, rPI, rPJ, g1, g2, g3, g4, g5, g6, g7, g8, Nat.reduceEqDiff, Nat.reduceAdd, false_and, and_false, true_and, and_true, reduceIte, nZ0, nZ1, sσ11_6.1, sσ11_6.2, fun a k => (jσ11 a k).1, fun a k => (jσ11 a k).2, cσ11_7.1, cσ11_7.2, cσ11_8.1, cσ11_8.2, cσ11_9.1, cσ11_9.2, cσ11_10.1, cσ11_10.2, cσ11_11.1, cσ11_11.2, cσ11_13.1, cσ11_13.2] at p2
    try simp only [forall_eq, rII, rIJ, rIP, rJJ, rJI, rJP, rPP, rPI, rPJ, g1, g2, g3, g4, g5, g6, g7, g8, Nat.reduceEqDiff, Nat.reduceAdd, false_and, and_false, true_and, and_true, reduceIte, nZ0, nZ1, sσ11_6.1, sσ11_6.2, fun a k => (jσ11 a k).1, fun a k => (jσ11 a k).2, cσ11_7.1, cσ11_7.2, cσ11_8.1, cσ11_8.2, cσ11_9.1, cσ11_9.2, cσ11_10.1, cσ11_10.2, cσ11_11.1, cσ11_11.2, cσ11_13.1, cσ11_13.2]
    refine ⟨by first | assumption | simp, ?_⟩
    refine hX _ _ ?_ ?_ ?_
    · exact rσ11
    · exact fσ11
    · exact rfl
set_option maxHeartbeats 4000000 in
theorem s2_X16_sign {ra : Nat → Nat} {jx : Nat → Nat → Nat} {rm : Nat} (g : Geo ra jx rm) {σ : Sg} {v1 : Int} (rσ : Rg ra jx rm σ) (hps : PsI rm σ) (b1 : -2147483648 ≤ v1 ∧ v1 ≤ 2147483647) (hb3 : v1 ≠ 3) {Q : Sg → Unit → Prop} {X : Sg → String → Prop} (hQ : ∀ (σ' : Sg) (r : Unit), Rg ra jx rm σ' → Fr ra jx rm [] [4, 5, 7, 8, 9, 10, 11, 12, 13] σ σ' → (PsI rm σ' ∧ cn rm σ + 1 ≤ cn rm σ') → Q σ' r) (hX : ∀ (σ' : Sg) (E : String), Rg ra jx rm σ' → Fr ra jx rm [] [4, 5, 7, 8, 9, 10, 11, 12, 13] σ σ' → (E = "StreamHouseModel$Fault") → X σ' E) : wp_X16_sign ra jx rm v1 σ Q X := by
  obtain ⟨g1, g2, g3, g4, g5, g6, g7, g8⟩ := id g
  have fσ : Fr ra jx rm [] [4, 5, 7, 8, 9, 10, 11, 12, 13] σ σ := Fr.rf
  have ps9 := hps
  unfold wp_X16_sign
  unfold w_X16_sign_0
  try simp only [forall_eq, rII, rIJ, rIP, rJJ, rJI, rJP, rPP, rPI, rPJ, g1, g2, g3, g4, g5, g6, g7, g8, Nat.reduceEqDiff, Nat.reduceAdd, false_and, and_false, true_and, and_true, reduceIte, nZ0, nZ1]
  refine s2_X16_see g rσ (by exact ps9) (fun σ9 _ rσ9 fc p1 => ?_) (fun σx E rx fx px => hX _ _ rx (Fr.tr fσ (Fr.mor (fx) (by decide) (by decide))) px)
  have fσ9 : Fr ra jx rm [] [4, 5, 7, 8, 9, 10, 11, 12, 13] σ σ9 := Fr.tr fσ (Fr.mor (fc) (by decide) (by decide))
  have ps9 := p1.1; have cq9 := p1.2
  have sσ9_6 := fσ9.2.1 6 (by decide)
  have jσ9 := fσ9.2.2.1
  try simp only [rII, rIJ, rIP, rJJ, rJI, rJP, rPP, rPI, rPJ, g1, g2, g3, g4, g5, g6, g7, g8, Nat.reduceEqDiff, Nat.reduceAdd, false_and, and_false, true_and, and_true, reduceIte, nZ0, nZ1, sσ9_6.1, sσ9_6.2, fun a k => (jσ9 a k).1, fun a k => (jσ9 a k).2] at p1
  try simp only [forall_eq, rII, rIJ, rIP, rJJ, rJI, rJP, rPP, rPI, rPJ, g1, g2, g3, g4, g5, g6, g7, g8, Nat.reduceEqDiff, Nat.reduceAdd, false_and, and_false, true_and, and_true, reduceIte, nZ0, nZ1, sσ9_6.1, sσ9_6.2, fun a k => (jσ9 a k).1, fun a k => (jσ9 a k).2]
  have q2 := rσ9.2.1 9; simp only [rgS] at q2
  split
  · rename_i hc9
    skip
    unfold w_X16_sign_17
    try simp only [forall_eq, rII, rIJ, rIP, rJJ, rJI, rJP, rPP, rPI, rPJ, g1, g2, g3, g4, g5, g6, g7, g8, Nat.reduceEqDiff, Nat.reduceAdd, false_and, and_false, true_and, and_true, reduceIte, nZ0, nZ1, sσ9_6.1, sσ9_6.2, fun a k => (jσ9 a k).1, fun a k => (jσ9 a k).2]
    refine s2_X16_take g rσ9 (by exact ps9) (by omega) (by omega) (fun σ10 _ rσ10 fc p3 => ?_)
    have fσ10 : Fr ra jx rm [] [4, 5, 7, 8, 9, 10, 11, 12, 13] σ σ10 := Fr.tr fσ9 (Fr.mor (fc) (by decide) (by decide))
    have cσ10_7 := fc.2.1 7 (by decide)
    have cσ10_9 := fc.2.1 9 (by decide)
    have cσ10_10 := fc.2.1 10 (by decide)
    have cσ10_13 := fc.2.1 13 (by decide)
    have ps9 := p3.1; have cq9 := p3.2
    have sσ10_6 := fσ10.2.1 6 (by decide)
    have jσ10 := fσ10.2.2.1
    try simp only [rII, rIJ, rIP, rJJ, rJI, rJP, rPP, rPI, rPJ, g1, g2, g3, g4, g5, g6, g7, g8, Nat.reduceEqDiff, Nat.reduceAdd, false_and, and_false, true_and, and_true, reduceIte, nZ0, nZ1, sσ10_6.1, sσ10_6.2, fun a k => (jσ10 a k).1, fun a k => (jσ10 a k).2, cσ10_7.1, cσ10_7.2, cσ10_9.1, cσ10_9.2, cσ10_10.1, cσ10_10.2, cσ10_13.1, cσ10_13.2] at p3
    try simp only [forall_eq, rII, rIJ, rIP, rJJ, rJI, rJP, rPP, rPI, rPJ, g1, g2, g3, g4, g5, g6, g7, g8, Nat.reduceEqDiff, Nat.reduceAdd, false_and, and_false, true_and, and_true, reduceIte, nZ0, nZ1, sσ10_6.1, sσ10_6.2, fun a k => (jσ10 a k).1, fun a k => (jσ10 a k).2, cσ10_7.1, cσ10_7.2, cσ10_9.1, cσ10_9.2, cσ10_10.1, cσ10_10.2, cσ10_13.1, cσ10_13.2]
    refine hQ _ _ ?_ ?_ ?_
    · exact rσ10
    · exact fσ10
    · exact ⟨ps9, by omega⟩
  · rename_i hc9
    skip
    unfold w_X16_sign_12
    try simp only [forall_eq, rII, rIJ, rIP, rJJ, rJI, rJP, rPP, rPI, rPJ, g1, g2, g3, g4, g5, g6, g7, g8, Nat.reduceEqDiff, Nat.reduceAdd, false_and, and_false, true_and, and_true, reduceIte, nZ0, nZ1, sσ9_6.1, sσ9_6.2, fun a k => (jσ9 a k).1, fun a k => (jσ9 a k).2]
    refine s_X16_misplaced g rσ9 (fun σ11 r12 rσ11 fc p4 => ?_)
    have fσ11 : Fr ra jx rm [] [4, 5, 7, 8, 9, 10, 11, 12, 13] σ σ11 := Fr.tr fσ9 (Fr.mor (fc) (by decide) (by decide))
    have cσ11_7 := fc.2.1 7 (by decide)
    have cσ11_8 := fc.2.1 8 (by decide)
    have cσ11_9 := fc.2.1 9 (by decide)
    have cσ11_10 := fc.2.1 10 (by decide)
    have cσ11_13 := fc.2.1 13 (by decide)
    have sσ11_6 := fσ11.2.1 6 (by decide)
    have jσ11 := fσ11.2.2.1
    try simp only [rII, rIJ, rIP, rJJ, rJI, rJP, rPP, rPI, rPJ, g1, g2, g3, g4, g5, g6, g7, g8, Nat.reduceEqDiff, Nat.reduceAdd, false_and, and_false, true_and, and_true, reduceIte, nZ0, nZ1, sσ11_6.1, sσ11_6.2, fun a k => (jσ11 a k).1, fun a k => (jσ11 a k).2, cσ11_7.1, cσ11_7.2, cσ11_8.1, cσ11_8.2, cσ11_9.1, cσ11_9.2, cσ11_10.1, cσ11_10.2, cσ11_13.1, cσ11_13.2] at p4
    try simp only [forall_eq, rII, rIJ, rIP, rJJ, rJI, rJP, rPP, rPI, rPJ, g1, g2, g3, g4, g5, g6, g7, g8, Nat.reduceEqDiff, Nat.reduceAdd, false_and, and_false, true_and, and_true, reduceIte, nZ0, nZ1, sσ11_6.1, sσ11_6.2, fun a k => (jσ11 a k).1, fun a k => (jσ11 a k).2, cσ11_7.1, cσ11_7.2, cσ11_8.1, cσ11_8.2, cσ11_9.1, cσ11_9.2, cσ11_10.1, cσ11_10.2, cσ11_13.1, cσ11_13.2]
    refine ⟨by first | assumption | simp, ?_⟩
    refine hX _ _ ?_ ?_ ?_
    · exact rσ11
    · exact fσ11
    · exact rfl
set_option maxHeartbeats 4000000 in
theorem s2_X16_keyword {ra : Nat → Nat} {jx : Nat → Nat → Nat} {rm : Nat} (g : Geo ra jx rm) {σ : Sg} {v1 : Nat} (rσ : Rg ra jx rm σ) (hps : PsI rm σ) {Q : Sg → Unit → Prop} {X : Sg → String → Prop} (hQ : ∀ (σ' : Sg) (r : Unit), Rg ra jx rm σ' → Fr ra jx rm [] [4, 5, 7, 8, 9, 10, 11, 12, 13] σ σ' → (PsI rm σ' ∧ cn rm σ + 1 ≤ cn rm σ') → Q σ' r) (hX : ∀ (σ' : Sg) (E : String), Rg ra jx rm σ' → Fr ra jx rm [] [4, 5, 7, 8, 9, 10, 11, 12, 13] σ σ' → (E = "StreamHouseModel$Fault") → X σ' E) : wp_X16_keyword ra jx rm v1 σ Q X := by
  obtain ⟨g1, g2, g3, g4, g5, g6, g7, g8⟩ := id g
  have fσ : Fr ra jx rm [] [4, 5, 7, 8, 9, 10, 11, 12, 13] σ σ := Fr.rf
  have ps9 := hps
  unfold wp_X16_keyword
  unfold w_X16_keyword_0
  try simp only [forall_eq, rII, rIJ, rIP, rJJ, rJI, rJP, rPP, rPI, rPJ, g1, g2, g3, g4, g5, g6, g7, g8, Nat.reduceEqDiff, Nat.reduceAdd, false_and, and_false, true_and, and_true, reduceIte, nZ0, nZ1]
  refine s2_X16_isWord g rσ (by exact ps9) (fun σ11 r12 rσ11 fc p1 => ?_) (fun σx E rx fx px => hX _ _ rx (Fr.tr fσ (Fr.mor (fx) (by decide) (by decide))) px)
  have fσ11 : Fr ra jx rm [] [4, 5, 7, 8, 9, 10, 11, 12, 13] σ σ11 := Fr.tr fσ (Fr.mor (fc) (by decide) (by decide))
  have ps9 := p1.1; have cq9 := p1.2
  have sσ11_6 := fσ11.2.1 6 (by decide)
  have jσ11 := fσ11.2.2.1
  try simp only [rII, rIJ, rIP, rJJ, rJI, rJP, rPP, rPI, rPJ, g1, g2, g3, g4, g5, g6, g7, g8, Nat.reduceEqDiff, Nat.reduceAdd, false_and, and_false, true_and, and_true, reduceIte, nZ0, nZ1, sσ11_6.1, sσ11_6.2, fun a k => (jσ11 a k).1, fun a k => (jσ11 a k).2] at p1
  try simp only [forall_eq, rII, rIJ, rIP, rJJ, rJI, rJP, rPP, rPI, rPJ, g1, g2, g3, g4, g5, g6, g7, g8, Nat.reduceEqDiff, Nat.reduceAdd, false_and, and_false, true_and, and_true, reduceIte, nZ0, nZ1, sσ11_6.1, sσ11_6.2, fun a k => (jσ11 a k).1, fun a k => (jσ11 a k).2]
  split
  · rename_i hc5
    skip
    unfold w_X16_keyword_13
    try simp only [forall_eq, rII, rIJ, rIP, rJJ, rJI, rJP, rPP, rPI, rPJ, g1, g2, g3, g4, g5, g6, g7, g8, Nat.reduceEqDiff, Nat.reduceAdd, false_and, and_false, true_and, and_true, reduceIte, nZ0, nZ1, sσ11_6.1, sσ11_6.2, fun a k => (jσ11 a k).1, fun a k => (jσ11 a k).2]
    refine s2_X16_take g rσ11 (by exact ps9) (by omega) (by omega) (fun σ13 _ rσ13 fc p2 => ?_)
    have fσ13 : Fr ra jx rm [] [4, 5, 7, 8, 9, 10, 11, 12, 13] σ σ13 := Fr.tr fσ11 (Fr.mor (fc) (by decide) (by decide))
    have cσ13_7 := fc.2.1 7 (by decide)
    have cσ13_9 := fc.2.1 9 (by decide)
    have cσ13_10 := fc.2.1 10 (by decide)
    have cσ13_13 := fc.2.1 13 (by decide)
    have ps9 := p2.1; have cq9 := p2.2
    have sσ13_6 := fσ13.2.1 6 (by decide)
    have jσ13 := fσ13.2.2.1
    try simp only [rII, rIJ, rIP, rJJ, rJI, rJP, rPP, rPI, rPJ, g1, g2, g3, g4, g5, g6, g7, g8, Nat.reduceEqDiff, Nat.reduceAdd, false_and, and_false, true_and, and_true, reduceIte, nZ0, nZ1, sσ13_6.1, sσ13_6.2, fun a k => (jσ13 a k).1, fun a k => (jσ13 a k).2, cσ13_7.1, cσ13_7.2, cσ13_9.1, cσ13_9.2, cσ13_10.1, cσ13_10.2, cσ13_13.1, cσ13_13.2] at p2
    try simp only [forall_eq, rII, rIJ, rIP, rJJ, rJI, rJP, rPP, rPI, rPJ, g1, g2, g3, g4, g5, g6, g7, g8, Nat.reduceEqDiff, Nat.reduceAdd, false_and, and_false, true_and, and_true, reduceIte, nZ0, nZ1, sσ13_6.1, sσ13_6.2, fun a k => (jσ13 a k).1, fun a k => (jσ13 a k).2, cσ13_7.1, cσ13_7.2, cσ13_9.1, cσ13_9.2, cσ13_10.1, cσ13_10.2, cσ13_13.1, cσ13_13.2]
    refine hQ _ _ ?_ ?_ ?_
    · exact rσ13
    · exact fσ13
    · exact ⟨ps9, by omega⟩
  · rename_i hc5
    skip
    unfold w_X16_keyword_8
    try simp only [forall_eq, rII, rIJ, rIP, rJJ, rJI, rJP, rPP, rPI, rPJ, g1, g2, g3, g4, g5, g6, g7, g8, Nat.reduceEqDiff, Nat.reduceAdd, false_and, and_false, true_and, and_true, reduceIte, nZ0, nZ1, sσ11_6.1, sσ11_6.2, fun a k => (jσ11 a k).1, fun a k => (jσ11 a k).2]
    refine s_X16_misplaced g rσ11 (fun σ14 r15 rσ14 fc p3 => ?_)
    have fσ14 : Fr ra jx rm [] [4, 5, 7, 8, 9, 10, 11, 12, 13] σ σ14 := Fr.tr fσ11 (Fr.mor (fc) (by decide) (by decide))
    have cσ14_7 := fc.2.1 7 (by decide)
    have cσ14_8 := fc.2.1 8 (by decide)
    have cσ14_9 := fc.2.1 9 (by decide)
    have cσ14_10 := fc.2.1 10 (by decide)
    have cσ14_13 := fc.2.1 13 (by decide)
    have sσ14_6 := fσ14.2.1 6 (by decide)
    have jσ14 := fσ14.2.2.1
    try simp only [rII, rIJ, rIP, rJJ, rJI, rJP, rPP, rPI, rPJ, g1, g2, g3, g4, g5, g6, g7, g8, Nat.reduceEqDiff, Nat.reduceAdd, false_and, and_false, true_and, and_true, reduceIte, nZ0, nZ1, sσ14_6.1, sσ14_6.2, fun a k => (jσ14 a k).1, fun a k => (jσ14 a k).2, cσ14_7.1, cσ14_7.2, cσ14_8.1, cσ14_8.2, cσ14_9.1, cσ14_9.2, cσ14_10.1, cσ14_10.2, cσ14_13.1, cσ14_13.2] at p3
    try simp only [forall_eq, rII, rIJ, rIP, rJJ, rJI, rJP, rPP, rPI, rPJ, g1, g2, g3, g4, g5, g6, g7, g8, Nat.reduceEqDiff, Nat.reduceAdd, false_and, and_false, true_and, and_true, reduceIte, nZ0, nZ1, sσ14_6.1, sσ14_6.2, fun a k => (jσ14 a k).1, fun a k => (jσ14 a k).2, cσ14_7.1, cσ14_7.2, cσ14_8.1, cσ14_8.2, cσ14_9.1, cσ14_9.2, cσ14_10.1, cσ14_10.2, cσ14_13.1, cσ14_13.2]
    refine ⟨by first | assumption | simp, ?_⟩
    refine hX _ _ ?_ ?_ ?_
    · exact rσ14
    · exact fσ14
    · exact rfl
set_option maxHeartbeats 4000000 in
theorem s2_X16_opens {ra : Nat → Nat} {jx : Nat → Nat → Nat} {rm : Nat} (g : Geo ra jx rm) {σ : Sg} (rσ : Rg ra jx rm σ) (hps : PsI rm σ) (h8 : gI σ rm 8 = 1) (h9 : gI σ rm 9 ≠ 3) {Q : Sg → Unit → Prop} {X : Sg → String → Prop} (hQ : ∀ (σ' : Sg) (r : Unit), Rg ra jx rm σ' → Fr ra jx rm [] [4, 5, 8, 19] σ σ' → (PsI rm σ' ∧ cn rm σ + 1 ≤ cn rm σ' ∧ gI σ' rm 19 = gI σ rm 19 + 1 ∧ gI σ rm 19 < 10 ∧ gI σ' rm 8 = 0) → Q σ' r) (hX : ∀ (σ' : Sg) (E : String), Rg ra jx rm σ' → Fr ra jx rm [] [4, 5, 8, 19] σ σ' → (E = "StreamHouseModel$Fault") → X σ' E) : wp_X16_opens ra jx rm σ Q X := by
  obtain ⟨g1, g2, g3, g4, g5, g6, g7, g8⟩ := id g
  have fσ : Fr ra jx rm [] [4, 5, 8, 19] σ σ := Fr.rf
  have ps9 := hps
  unfold wp_X16_opens
  unfold w_X16_opens_0
  try simp only [forall_eq, rII, rIJ, rIP, rJJ, rJI, rJP, rPP, rPI, rPJ, g1, g2, g3, g4, g5, g6, g7, g8, Nat.reduceEqDiff, Nat.reduceAdd, false_and, and_false, true_and, and_true, reduceIte, nZ0, nZ1]
  have q1 := rσ.2.1 19; simp only [rgS] at q1
  split
  · rename_i hc6
    skip
    unfold w_X16_opens_16
    try simp only [forall_eq, rII, rIJ, rIP, rJJ, rJI, rJP, rPP, rPI, rPJ, g1, g2, g3, g4, g5, g6, g7, g8, Nat.reduceEqDiff, Nat.reduceAdd, false_and, and_false, true_and, and_true, reduceIte, nZ0, nZ1]
    have cs9 := cn_sI (k := 19) (x := gI σ rm 19 + 1) (by decide) hps
    have ps9 := cs9.1
    have cs8 := cs9.2
    refine ⟨by (first | omega | with_reducible assumption | (unfold rng; omega) | (unfold rng; (repeat' split) <;> omega) | decide), ?_⟩
    refine s2_X16_take g (by refine Rg.sI g ?_ (by simp only [rgS]; first | with_reducible exact nZ_rng _ | with_reducible exact nB_rng _ | with_reducible exact wr_rng _ | with_reducible exact i32any _ | (first | omega | with_reducible assumption | (unfold rng; omega) | (unfold rng; (repeat' split) <;> omega) | decide)); exact rσ) (by exact ps9) (by (try simp only [rII, rIJ, rIP, rJJ, rJI, rJP, rPP, rPI, rPJ, g1, g2, g3, g4, g5, g6, g7, g8, Nat.reduceEqDiff, Nat.reduceAdd, false_and, and_false, true_and, and_true, reduceIte, nZ0, nZ1]) <;> omega) (by (try simp only [rII, rIJ, rIP, rJJ, rJI, rJP, rPP, rPI, rPJ, g1, g2, g3, g4, g5, g6, g7, g8, Nat.reduceEqDiff, Nat.reduceAdd, false_and, and_false, true_and, and_true, reduceIte, nZ0, nZ1]) <;> omega) (fun σ10 _ rσ10 fc p2 => ?_)
    have fσ10 : Fr ra jx rm [] [4, 5, 8, 19] σ σ10 := Fr.tr (by refine Fr.sI g ?_ (by decide); exact fσ) (Fr.mor (fc) (by decide) (by decide))
    have cσ10_19 := fc.2.1 19 (by decide)
    have ps9 := p2.1; have cq9 := p2.2
    have t19 := (fc.2.1 19 (by decide)).1
    simp only [rII, rIJ, rIP, rJJ, rJI, rJP, rPP, rPI, rPJ, g1, g2, g3, g4, g5, g6, g7, g8, Nat.reduceEqDiff, Nat.reduceAdd, false_and, and_false, true_and, and_true, reduceIte, nZ0, nZ1] at t19
    have sσ10_6 := fσ10.2.1 6 (by decide)
    have jσ10 := fσ10.2.2.1
    try simp only [rII, rIJ, rIP, rJJ, rJI, rJP, rPP, rPI, rPJ, g1, g2, g3, g4, g5, g6, g7, g8, Nat.reduceEqDiff, Nat.reduceAdd, false_and, and_false, true_and, and_true, reduceIte, nZ0, nZ1, sσ10_6.1, sσ10_6.2, fun a k => (jσ10 a k).1, fun a k => (jσ10 a k).2, cσ10_19.1, cσ10_19.2] at p2
    try simp only [forall_eq, rII, rIJ, rIP, rJJ, rJI, rJP, rPP, rPI, rPJ, g1, g2, g3, g4, g5, g6, g7, g8, Nat.reduceEqDiff, Nat.reduceAdd, false_and, and_false, true_and, and_true, reduceIte, nZ0, nZ1, sσ10_6.1, sσ10_6.2, fun a k => (jσ10 a k).1, fun a k => (jσ10 a k).2, cσ10_19.1, cσ10_19.2]
    refine hQ _ _ ?_ ?_ ?_
    · exact rσ10
    · exact fσ10
    · exact ⟨ps9, by omega, by omega, by omega, by omega⟩
  · rename_i hc6
    skip
    unfold w_X16_opens_9
    try simp only [forall_eq, rII, rIJ, rIP, rJJ, rJI, rJP, rPP, rPI, rPJ, g1, g2, g3, g4, g5, g6, g7, g8, Nat.reduceEqDiff, Nat.reduceAdd, false_and, and_false, true_and, and_true, reduceIte, nZ0, nZ1]
    refine s_X16_fail g rσ (by (try simp only [rII, rIJ, rIP, rJJ, rJI, rJP, rPP, rPI, rPJ, g1, g2, g3, g4, g5, g6, g7, g8, Nat.reduceEqDiff, Nat.reduceAdd, false_and, and_false, true_and, and_true, reduceIte, nZ0, nZ1]) <;> (first | omega | with_reducible assumption | (unfold rng; omega) | (unfold rng; (repeat' split) <;> omega) | decide)) (fun σ11 r12 rσ11 fc p3 => ?_)
    have fσ11 : Fr ra jx rm [] [4, 5, 8, 19] σ σ11 := Fr.tr fσ (Fr.mor (fc) (by decide) (by decide))
    have cσ11_8 := fc.2.1 8 (by decide)
    have cσ11_19 := fc.2.1 19 (by decide)
    have sσ11_6 := fσ11.2.1 6 (by decide)
    have jσ11 := fσ11.2.2.1
    try simp only [rII, rIJ, rIP, rJJ, rJI, rJP, rPP, rPI, rPJ, g1, g2, g3, g4, g5, g6, g7, g8, Nat.reduceEqDiff, Nat.reduceAdd, false_and, and_false, true_and, and_true, reduceIte, nZ0, nZ1, sσ11_6.1, sσ11_6.2, fun a k => (jσ11 a k).1, fun a k => (jσ11 a k).2, cσ11_8.1, cσ11_8.2, cσ11_19.1, cσ11_19.2] at p3
    try simp only [forall_eq, rII, rIJ, rIP, rJJ, rJI, rJP, rPP, rPI, rPJ, g1, g2, g3, g4, g5, g6, g7, g8, Nat.reduceEqDiff, Nat.reduceAdd, false_and, and_false, true_and, and_true, reduceIte, nZ0, nZ1, sσ11_6.1, sσ11_6.2, fun a k => (jσ11 a k).1, fun a k => (jσ11 a k).2, cσ11_8.1, cσ11_8.2, cσ11_19.1, cσ11_19.2]
    refine ⟨by first | assumption | simp, ?_⟩
    refine hX _ _ ?_ ?_ ?_
    · exact rσ11
    · exact fσ11
    · exact rfl
set_option maxHeartbeats 4000000 in
theorem s2_X16_bounded {ra : Nat → Nat} {jx : Nat → Nat → Nat} {rm : Nat} (g : Geo ra jx rm) {σ : Sg} {v1 : Int64} {v3 : Int64} (rσ : Rg ra jx rm σ) (hps : PsI rm σ) {Q : Sg → Int64 → Prop} {X : Sg → String → Prop} (hQ : ∀ (σ' : Sg) (r : Int64), Rg ra jx rm σ' → Fr ra jx rm [] [4, 5, 7, 8, 9, 10, 11, 12, 13] σ σ' → (PsI rm σ' ∧ cn rm σ + 1 ≤ cn rm σ' ∧ v1 ≤ r ∧ r ≤ v3) → Q σ' r) (hX : ∀ (σ' : Sg) (E : String), Rg ra jx rm σ' → Fr ra jx rm [] [4, 5, 7, 8, 9, 10, 11, 12, 13] σ σ' → (E = "StreamHouseModel$Fault") → X σ' E) : wp_X16_bounded ra jx rm v1 v3 σ Q X := by
  obtain ⟨g1, g2, g3, g4, g5, g6, g7, g8⟩ := id g
  have fσ : Fr ra jx rm [] [4, 5, 7, 8, 9, 10, 11, 12, 13] σ σ := Fr.rf
  have ps9 := hps
  unfold wp_X16_bounded
  unfold w_X16_bounded_0
  try simp only [forall_eq, rII, rIJ, rIP, rJJ, rJI, rJP, rPP, rPI, rPJ, g1, g2, g3, g4, g5, g6, g7, g8, Nat.reduceEqDiff, Nat.reduceAdd, false_and, and_false, true_and, and_true, reduceIte, nZ0, nZ1]
  refine s2_X16_see g rσ (by exact ps9) (fun σ17 _ rσ17 fc p1 => ?_) (fun σx E rx fx px => hX _ _ rx (Fr.tr fσ (Fr.mor (fx) (by decide) (by decide))) px)
  have fσ17 : Fr ra jx rm [] [4, 5, 7, 8, 9, 10, 11, 12, 13] σ σ17 := Fr.tr fσ (Fr.mor (fc) (by decide) (by decide))
  have ps9 := p1.1; have cq9 := p1.2
  have sσ17_6 := fσ17.2.1 6 (by decide)
  have jσ17 := fσ17.2.2.1
  try simp only [rII, rIJ, rIP, rJJ, rJI, rJP, rPP, rPI, rPJ, g1, g2, g3, g4, g5, g6, g7, g8, Nat.reduceEqDiff, Nat.reduceAdd, false_and, and_false, true_and, and_true, reduceIte, nZ0, nZ1, sσ17_6.1, sσ17_6.2, fun a k => (jσ17 a k).1, fun a k => (jσ17 a k).2] at p1
  try simp only [forall_eq, rII, rIJ, rIP, rJJ, rJI, rJP, rPP, rPI, rPJ, g1, g2, g3, g4, g5, g6, g7, g8, Nat.reduceEqDiff, Nat.reduceAdd, false_and, and_false, true_and, and_true, reduceIte, nZ0, nZ1, sσ17_6.1, sσ17_6.2, fun a k => (jσ17 a k).1, fun a k => (jσ17 a k).2]
  have q2 := rσ17.2.1 9; simp only [rgS] at q2
  split
  · rename_i hc9
    skip
    unfold w_X16_bounded_17
    try simp only [forall_eq, rII, rIJ, rIP, rJJ, rJI, rJP, rPP, rPI, rPJ, g1, g2, g3, g4, g5, g6, g7, g8, Nat.reduceEqDiff, Nat.reduceAdd, false_and, and_false, true_and, and_true, reduceIte, nZ0, nZ1, sσ17_6.1, sσ17_6.2, fun a k => (jσ17 a k).1, fun a k => (jσ17 a k).2]
    refine s2_X16_within g rσ17 (fun r19 p3 => ?_)
    try simp only [rII, rIJ, rIP, rJJ, rJI, rJP, rPP, rPI, rPJ, g1, g2, g3, g4, g5, g6, g7, g8, Nat.reduceEqDiff, Nat.reduceAdd, false_and, and_false, true_and, and_true, reduceIte, nZ0, nZ1, sσ17_6.1, sσ17_6.2, fun a k => (jσ17 a k).1, fun a k => (jσ17 a k).2] at p3
    try simp only [forall_eq, rII, rIJ, rIP, rJJ, rJI, rJP, rPP, rPI, rPJ, g1, g2, g3, g4, g5, g6, g7, g8, Nat.reduceEqDiff, Nat.reduceAdd, false_and, and_false, true_and, and_true, reduceIte, nZ0, nZ1, sσ17_6.1, sσ17_6.2, fun a k => (jσ17 a k).1, fun a k => (jσ17 a k).2]
    have wr9 : r19 = 0 ∨ r19 = 1 := p3.elim (fun z => Or.inr z.1) (fun z => Or.inl z.1)
    have wl8 : r19 ≠ 0 → _ := fun q => p3.elim (fun z => z.2) (fun z => absurd z.1 q)
    clear p3
    split
    · rename_i hc26
      skip
      unfold w_X16_bounded_36
      try simp only [forall_eq, rII, rIJ, rIP, rJJ, rJI, rJP, rPP, rPI, rPJ, g1, g2, g3, g4, g5, g6, g7, g8, Nat.reduceEqDiff, Nat.reduceAdd, false_and, and_false, true_and, and_true, reduceIte, nZ0, nZ1, sσ17_6.1, sσ17_6.2, fun a k => (jσ17 a k).1, fun a k => (jσ17 a k).2]
      have wb9 := wl8 (by assumption)
      refine s2_X16_take g rσ17 (by exact ps9) (by omega) (by omega) (fun σ20 _ rσ20 fc p4 => ?_)
      have fσ20 : Fr ra jx rm [] [4, 5, 7, 8, 9, 10, 11, 12, 13] σ σ20 := Fr.tr fσ17 (Fr.mor (fc) (by decide) (by decide))
      have cσ20_7 := fc.2.1 7 (by decide)
      have cσ20_9 := fc.2.1 9 (by decide)
      have cσ20_10 := fc.2.1 10 (by decide)
      have cσ20_13 := fc.2.1 13 (by decide)
      have ps9 := p4.1; have cq9 := p4.2
      have sσ20_6 := fσ20.2.1 6 (by decide)
      have jσ20 := fσ20.2.2.1
      try simp only [rII, rIJ, rIP, rJJ, rJI, rJP, rPP, rPI, rPJ, g1, g2, g3, g4, g5, g6, g7, g8, Nat.reduceEqDiff, Nat.reduceAdd, false_and, and_false, true_and, and_true, reduceIte, nZ0, nZ1, sσ20_6.1, sσ20_6.2, fun a k => (jσ20 a k).1, fun a k => (jσ20 a k).2, cσ20_7.1, cσ20_7.2, cσ20_9.1, cσ20_9.2, cσ20_10.1, cσ20_10.2, cσ20_13.1, cσ20_13.2] at p4
      try simp only [forall_eq, rII, rIJ, rIP, rJJ, rJI, rJP, rPP, rPI, rPJ, g1, g2, g3, g4, g5, g6, g7, g8, Nat.reduceEqDiff, Nat.reduceAdd, false_and, and_false, true_and, and_true, reduceIte, nZ0, nZ1, sσ20_6.1, sσ20_6.2, fun a k => (jσ20 a k).1, fun a k => (jσ20 a k).2, cσ20_7.1, cσ20_7.2, cσ20_9.1, cσ20_9.2, cσ20_10.1, cσ20_10.2, cσ20_13.1, cσ20_13.2]
      refine hQ _ _ ?_ ?_ ?_
      · exact rσ20
      · exact fσ20
      · exact ⟨ps9, by omega, by (try simp only [rII, rIJ, rIP, rJJ, rJI, rJP, rPP, rPI, rPJ, g1, g2, g3, g4, g5, g6, g7, g8, Nat.reduceEqDiff, Nat.reduceAdd, false_and, and_false, true_and, and_true, reduceIte, nZ0, nZ1, sσ20_6.1, sσ20_6.2, fun a k => (jσ20 a k).1, fun a k => (jσ20 a k).2, cσ20_7.1, cσ20_7.2, cσ20_9.1, cσ20_9.2, cσ20_10.1, cσ20_10.2, cσ20_13.1, cσ20_13.2]) <;> exact wb9.1, by (try simp only [rII, rIJ, rIP, rJJ, rJI, rJP, rPP, rPI, rPJ, g1, g2, g3, g4, g5, g6, g7, g8, Nat.reduceEqDiff, Nat.reduceAdd, false_and, and_false, true_and, and_true, reduceIte, nZ0, nZ1, sσ20_6.1, sσ20_6.2, fun a k => (jσ20 a k).1, fun a k => (jσ20 a k).2, cσ20_7.1, cσ20_7.2, cσ20_9.1, cσ20_9.2, cσ20_10.1, cσ20_10.2, cσ20_13.1, cσ20_13.2]) <;> exact wb9.2⟩
    · rename_i hc26
      skip
      unfold w_X16_bounded_29
      try simp only [forall_eq, rII, rIJ, rIP, rJJ, rJI, rJP, rPP, rPI, rPJ, g1, g2, g3, g4, g5, g6, g7, g8, Nat.reduceEqDiff, Nat.reduceAdd, false_and, and_false, true_and, and_true, reduceIte, nZ0, nZ1, sσ17_6.1, sσ17_6.2, fun a k => (jσ17 a k).1, fun a k => (jσ17 a k).2]
      refine s_X16_fail g rσ17 (by (try simp only [rII, rIJ, rIP, rJJ, rJI, rJP, rPP, rPI, rPJ, g1, g2, g3, g4, g5, g6, g7, g8, Nat.reduceEqDiff, Nat.reduceAdd, false_and, and_false, true_and, and_true, reduceIte, nZ0, nZ1, sσ17_6.1, sσ17_6.2, fun a k => (jσ17 a k).1, fun a k => (jσ17 a k).2]) <;> (first | omega | with_reducible assumption | (unfold rng; omega) | (unfold rng; (repeat' split) <;> omega) | decide)) (fun σ21 r22 rσ21 fc p5 => ?_)
      have fσ21 : Fr ra jx rm [] [4, 5, 7, 8, 9, 10, 11, 12, 13] σ σ21 := Fr.tr fσ17 (Fr.mor (fc) (by decide) (by decide))
      have cσ21_7 := fc.2.1 7 (by decide)
      have cσ21_8 := fc.2.1 8 (by decide)
      have cσ21_9 := fc.2.1 9 (by decide)
      have cσ21_10 := fc.2.1 10 (by decide)
      have cσ21_13 := fc.2.1 13 (by decide)
      have sσ21_6 := fσ21.2.1 6 (by decide)
      have jσ21 := fσ21.2.2.1
      try simp only [rII, rIJ, rIP, rJJ, rJI, rJP, rPP, rPI, rPJ, g1, g2, g3, g4, g5, g6, g7, g8, Nat.reduceEqDiff, Nat.reduceAdd, false_and, and_false, true_and, and_true, reduceIte, nZ0, nZ1, sσ21_6.1, sσ21_6.2, fun a k => (jσ21 a k).1, fun a k => (jσ21 a k).2, cσ21_7.1, cσ21_7.2, cσ21_8.1, cσ21_8.2, cσ21_9.1, cσ21_9.2, cσ21_10.1, cσ21_10.2, cσ21_13.1, cσ21_13.2] at p5
      try simp only [forall_eq, rII, rIJ, rIP, rJJ, rJI, rJP, rPP, rPI, rPJ, g1, g2, g3, g4, g5, g6, g7, g8, Nat.reduceEqDiff, Nat.reduceAdd, false_and, and_false, true_and, and_true, reduceIte, nZ0, nZ1, sσ21_6.1, sσ21_6.2, fun a k => (jσ21 a k).1, fun a k => (jσ21 a k).2, cσ21_7.1, cσ21_7.2, cσ21_8.1, cσ21_8.2, cσ21_9.1, cσ21_9.2, cσ21_10.1, cσ21_10.2, cσ21_13.1, cσ21_13.2]
      refine ⟨by first | assumption | simp, ?_⟩
      refine hX _ _ ?_ ?_ ?_
      · exact rσ21
      · exact fσ21
      · exact rfl
  · rename_i hc9
    skip
    unfold w_X16_bounded_12
    try simp only [forall_eq, rII, rIJ, rIP, rJJ, rJI, rJP, rPP, rPI, rPJ, g1, g2, g3, g4, g5, g6, g7, g8, Nat.reduceEqDiff, Nat.reduceAdd, false_and, and_false, true_and, and_true, reduceIte, nZ0, nZ1, sσ17_6.1, sσ17_6.2, fun a k => (jσ17 a k).1, fun a k => (jσ17 a k).2]
    refine s_X16_misplaced g rσ17 (fun σ23 r24 rσ23 fc p6 => ?_)
    have fσ23 : Fr ra jx rm [] [4, 5, 7, 8, 9, 10, 11, 12, 13] σ σ23 := Fr.tr fσ17 (Fr.mor (fc) (by decide) (by decide))
    have cσ23_7 := fc.2.1 7 (by decide)
    have cσ23_8 := fc.2.1 8 (by decide)
    have cσ23_9 := fc.2.1 9 (by decide)
    have cσ23_10 := fc.2.1 10 (by decide)
    have cσ23_13 := fc.2.1 13 (by decide)
    have sσ23_6 := fσ23.2.1 6 (by decide)
    have jσ23 := fσ23.2.2.1
    try simp only [rII, rIJ, rIP, rJJ, rJI, rJP, rPP, rPI, rPJ, g1, g2, g3, g4, g5, g6, g7, g8, Nat.reduceEqDiff, Nat.reduceAdd, false_and, and_false, true_and, and_true, reduceIte, nZ0, nZ1, sσ23_6.1, sσ23_6.2, fun a k => (jσ23 a k).1, fun a k => (jσ23 a k).2, cσ23_7.1, cσ23_7.2, cσ23_8.1, cσ23_8.2, cσ23_9.1, cσ23_9.2, cσ23_10.1, cσ23_10.2, cσ23_13.1, cσ23_13.2] at p6
    try simp only [forall_eq, rII, rIJ, rIP, rJJ, rJI, rJP, rPP, rPI, rPJ, g1, g2, g3, g4, g5, g6, g7, g8, Nat.reduceEqDiff, Nat.reduceAdd, false_and, and_false, true_and, and_true, reduceIte, nZ0, nZ1, sσ23_6.1, sσ23_6.2, fun a k => (jσ23 a k).1, fun a k => (jσ23 a k).2, cσ23_7.1, cσ23_7.2, cσ23_8.1, cσ23_8.2, cσ23_9.1, cσ23_9.2, cσ23_10.1, cσ23_10.2, cσ23_13.1, cσ23_13.2]
    refine ⟨by first | assumption | simp, ?_⟩
    refine hX _ _ ?_ ?_ ?_
    · exact rσ23
    · exact fσ23
    · exact rfl
set_option maxHeartbeats 4000000 in
theorem s2_X16_columnOf {ra : Nat → Nat} {jx : Nat → Nat → Nat} {rm : Nat} {da : Nat} (g : Geo ra jx rm) {σ : Sg} {v1 : Int} (rσ : Rg ra jx rm σ) (hps : PsI rm σ) (hd : gP σ rm 18 = some da) (hda : da = ra 15 ∨ da = ra 16) (h1 : 0 ≤ v1 ∧ v1 < 16) {Q : Sg → Int → Prop} {X : Sg → String → Prop} (hQ : ∀ (σ' : Sg) (r : Int), Rg ra jx rm σ' → Fr ra jx rm [] [4, 5, 7, 8, 9, 10, 11, 12, 13] σ σ' → (PsI rm σ' ∧ cn rm σ + 1 ≤ cn rm σ' ∧ 0 ≤ r ∧ r < 8) → Q σ' r) (hX : ∀ (σ' : Sg) (E : String), Rg ra jx rm σ' → Fr ra jx rm [] [4, 5, 7, 8, 9, 10, 11, 12, 13] σ σ' → (E = "StreamHouseModel$Fault") → X σ' E) : wp_X16_columnOf ra jx rm v1 σ Q X := by
  obtain ⟨g1, g2, g3, g4, g5, g6, g7, g8⟩ := id g
  have fσ : Fr ra jx rm [] [4, 5, 7, 8, 9, 10, 11, 12, 13] σ σ := Fr.rf
  have ps9 := hps
  unfold wp_X16_columnOf
  unfold w_X16_columnOf_0
  try simp only [forall_eq, rII, rIJ, rIP, rJJ, rJI, rJP, rPP, rPI, rPJ, g1, g2, g3, g4, g5, g6, g7, g8, Nat.reduceEqDiff, Nat.reduceAdd, false_and, and_false, true_and, and_true, reduceIte, nZ0, nZ1]
  refine s2_X16_seeName g rσ (by exact ps9) (fun σ17 r18 rσ17 fc p1 => ?_) (fun σx E rx fx px => hX _ _ rx (Fr.tr fσ (Fr.mor (fx) (by decide) (by decide))) px)
  have fσ17 : Fr ra jx rm [] [4, 5, 7, 8, 9, 10, 11, 12, 13] σ σ17 := Fr.tr fσ (Fr.mor (fc) (by decide) (by decide))
  have ps9 := p1.1; have cq9 := p1.2
  have sσ17_6 := fσ17.2.1 6 (by decide)
  have jσ17 := fσ17.2.2.1
  have pσ17 := fσ17.2.2.2
  have obσ17 := Fr.ob fσ17 hda (by decide)
  try simp only [rII, rIJ, rIP, rJJ, rJI, rJP, rPP, rPI, rPJ, g1, g2, g3, g4, g5, g6, g7, g8, Nat.reduceEqDiff, Nat.reduceAdd, false_and, and_false, true_and, and_true, reduceIte, nZ0, nZ1, sσ17_6.1, sσ17_6.2, fun a k => (jσ17 a k).1, fun a k => (jσ17 a k).2, pσ17, obσ17] at p1
  try simp only [forall_eq, rII, rIJ, rIP, rJJ, rJI, rJP, rPP, rPI, rPJ, g1, g2, g3, g4, g5, g6, g7, g8, Nat.reduceEqDiff, Nat.reduceAdd, false_and, and_false, true_and, and_true, reduceIte, nZ0, nZ1, sσ17_6.1, sσ17_6.2, fun a k => (jσ17 a k).1, fun a k => (jσ17 a k).2, pσ17, obσ17]
  refine ⟨da, by exact hd, hda, ?_⟩
  refine s2_X15_column g rσ17 hda (by (try simp only [rII, rIJ, rIP, rJJ, rJI, rJP, rPP, rPI, rPJ, g1, g2, g3, g4, g5, g6, g7, g8, Nat.reduceEqDiff, Nat.reduceAdd, false_and, and_false, true_and, and_true, reduceIte, nZ0, nZ1, sσ17_6.1, sσ17_6.2, fun a k => (jσ17 a k).1, fun a k => (jσ17 a k).2, pσ17, obσ17]) <;> (first | omega | with_reducible assumption | (unfold rng; omega) | (unfold rng; (repeat' split) <;> omega) | decide)) (fun r21 p2 => ?_)
  try simp only [rII, rIJ, rIP, rJJ, rJI, rJP, rPP, rPI, rPJ, g1, g2, g3, g4, g5, g6, g7, g8, Nat.reduceEqDiff, Nat.reduceAdd, false_and, and_false, true_and, and_true, reduceIte, nZ0, nZ1, sσ17_6.1, sσ17_6.2, fun a k => (jσ17 a k).1, fun a k => (jσ17 a k).2, pσ17, obσ17] at p2
  try simp only [forall_eq, rII, rIJ, rIP, rJJ, rJI, rJP, rPP, rPI, rPJ, g1, g2, g3, g4, g5, g6, g7, g8, Nat.reduceEqDiff, Nat.reduceAdd, false_and, and_false, true_and, and_true, reduceIte, nZ0, nZ1, sσ17_6.1, sσ17_6.2, fun a k => (jσ17 a k).1, fun a k => (jσ17 a k).2, pσ17, obσ17]
  split
  · rename_i hc15
    skip
    unfold w_X16_columnOf_24
    try simp only [forall_eq, rII, rIJ, rIP, rJJ, rJI, rJP, rPP, rPI, rPJ, g1, g2, g3, g4, g5, g6, g7, g8, Nat.reduceEqDiff, Nat.reduceAdd, false_and, and_false, true_and, and_true, reduceIte, nZ0, nZ1, sσ17_6.1, sσ17_6.2, fun a k => (jσ17 a k).1, fun a k => (jσ17 a k).2, pσ17, obσ17]
    refine s2_X16_take g rσ17 (by exact ps9) (by omega) (by omega) (fun σ22 _ rσ22 fc p3 => ?_)
    have fσ22 : Fr ra jx rm [] [4, 5, 7, 8, 9, 10, 11, 12, 13] σ σ22 := Fr.tr fσ17 (Fr.mor (fc) (by decide) (by decide))
    have cσ22_7 := fc.2.1 7 (by decide)
    have cσ22_9 := fc.2.1 9 (by decide)
    have cσ22_10 := fc.2.1 10 (by decide)
    have cσ22_13 := fc.2.1 13 (by decide)
    have ps9 := p3.1; have cq9 := p3.2
    have sσ22_6 := fσ22.2.1 6 (by decide)
    have jσ22 := fσ22.2.2.1
    have pσ22 := fσ22.2.2.2
    have obσ22 := Fr.ob fσ22 hda (by decide)
    try simp only [rII, rIJ, rIP, rJJ, rJI, rJP, rPP, rPI, rPJ, g1, g2, g3, g4, g5, g6, g7, g8, Nat.reduceEqDiff, Nat.reduceAdd, false_and, and_false, true_and, and_true, reduceIte, nZ0, nZ1, sσ22_6.1, sσ22_6.2, fun a k => (jσ22 a k).1, fun a k => (jσ22 a k).2, pσ22, obσ22, cσ22_7.1, cσ22_7.2, cσ22_9.1, cσ22_9.2, cσ22_10.1, cσ22_10.2, cσ22_13.1, cσ22_13.2] at p3
    try simp only [forall_eq, rII, rIJ, rIP, rJJ, rJI, rJP, rPP, rPI, rPJ, g1, g2, g3, g4, g5, g6, g7, g8, Nat.reduceEqDiff, Nat.reduceAdd, false_and, and_false, true_and, and_true, reduceIte, nZ0, nZ1, sσ22_6.1, sσ22_6.2, fun a k => (jσ22 a k).1, fun a k => (jσ22 a k).2, pσ22, obσ22, cσ22_7.1, cσ22_7.2, cσ22_9.1, cσ22_9.2, cσ22_10.1, cσ22_10.2, cσ22_13.1, cσ22_13.2]
    refine hQ _ _ ?_ ?_ ?_
    · exact rσ22
    · exact fσ22
    · exact ⟨ps9, by omega, by omega, by omega⟩
  · rename_i hc15
    skip
    unfold w_X16_columnOf_18
    try simp only [forall_eq, rII, rIJ, rIP, rJJ, rJI, rJP, rPP, rPI, rPJ, g1, g2, g3, g4, g5, g6, g7, g8, Nat.reduceEqDiff, Nat.reduceAdd, false_and, and_false, true_and, and_true, reduceIte, nZ0, nZ1, sσ17_6.1, sσ17_6.2, fun a k => (jσ17 a k).1, fun a k => (jσ17 a k).2, pσ17, obσ17]
    refine s_X16_fail g rσ17 (by (try simp only [rII, rIJ, rIP, rJJ, rJI, rJP, rPP, rPI, rPJ, g1, g2, g3, g4, g5, g6, g7, g8, Nat.reduceEqDiff, Nat.reduceAdd, false_and, and_false, true_and, and_true, reduceIte, nZ0, nZ1, sσ17_6.1, sσ17_6.2, fun a k => (jσ17 a k).1, fun a k => (jσ17 a k).2, pσ17, obσ17]) <;> (first | omega | with_reducible assumption | (unfold rng; omega) | (unfold rng; (repeat' split) <;> omega) | decide)) (fun σ23 r24 rσ23 fc p4 => ?_)
    have fσ23 : Fr ra jx rm [] [4, 5, 7, 8, 9, 10, 11, 12, 13] σ σ23 := Fr.tr fσ17 (Fr.mor (fc) (by decide) (by decide))
    have cσ23_7 := fc.2.1 7 (by decide)
    have cσ23_8 := fc.2.1 8 (by decide)
    have cσ23_9 := fc.2.1 9 (by decide)
    have cσ23_10 := fc.2.1 10 (by decide)
    have cσ23_13 := fc.2.1 13 (by decide)
    have sσ23_6 := fσ23.2.1 6 (by decide)
    have jσ23 := fσ23.2.2.1
    have pσ23 := fσ23.2.2.2
    have obσ23 := Fr.ob fσ23 hda (by decide)
    try simp only [rII, rIJ, rIP, rJJ, rJI, rJP, rPP, rPI, rPJ, g1, g2, g3, g4, g5, g6, g7, g8, Nat.reduceEqDiff, Nat.reduceAdd, false_and, and_false, true_and, and_true, reduceIte, nZ0, nZ1, sσ23_6.1, sσ23_6.2, fun a k => (jσ23 a k).1, fun a k => (jσ23 a k).2, pσ23, obσ23, cσ23_7.1, cσ23_7.2, cσ23_8.1, cσ23_8.2, cσ23_9.1, cσ23_9.2, cσ23_10.1, cσ23_10.2, cσ23_13.1, cσ23_13.2] at p4
    try simp only [forall_eq, rII, rIJ, rIP, rJJ, rJI, rJP, rPP, rPI, rPJ, g1, g2, g3, g4, g5, g6, g7, g8, Nat.reduceEqDiff, Nat.reduceAdd, false_and, and_false, true_and, and_true, reduceIte, nZ0, nZ1, sσ23_6.1, sσ23_6.2, fun a k => (jσ23 a k).1, fun a k => (jσ23 a k).2, pσ23, obσ23, cσ23_7.1, cσ23_7.2, cσ23_8.1, cσ23_8.2, cσ23_9.1, cσ23_9.2, cσ23_10.1, cσ23_10.2, cσ23_13.1, cσ23_13.2]
    refine ⟨by first | assumption | simp, ?_⟩
    refine hX _ _ ?_ ?_ ?_
    · exact rσ23
    · exact fσ23
    · exact rfl
set_option maxHeartbeats 4000000 in
theorem s2_X16_seeInput {ra : Nat → Nat} {jx : Nat → Nat → Nat} {rm : Nat} {da : Nat} (g : Geo ra jx rm) {σ : Sg} (rσ : Rg ra jx rm σ) (hps : PsI rm σ) (hd : gP σ rm 18 = some da) (hda : da = ra 15 ∨ da = ra 16) (hm : 0 ≤ gI σ da 0 ∧ gI σ da 0 ≤ 16) {Q : Sg → Int → Prop} {X : Sg → String → Prop} (hQ : ∀ (σ' : Sg) (r : Int), Rg ra jx rm σ' → Fr ra jx rm [] [4, 5, 7, 8, 9, 10, 11, 12, 13] σ σ' → (PsI rm σ' ∧ cn rm σ ≤ cn rm σ' ∧ gI σ' rm 8 = 1 ∧ gI σ' rm 9 = 1 ∧ 0 ≤ r ∧ r < gI σ da 0) → Q σ' r) (hX : ∀ (σ' : Sg) (E : String), Rg ra jx rm σ' → Fr ra jx rm [] [4, 5, 7, 8, 9, 10, 11, 12, 13] σ σ' → (E = "StreamHouseModel$Fault") → X σ' E) : wp_X16_seeInput ra jx rm σ Q X := by
  obtain ⟨g1, g2, g3, g4, g5, g6, g7, g8⟩ := id g
  have fσ : Fr ra jx rm [] [4, 5, 7, 8, 9, 10, 11, 12, 13] σ σ := Fr.rf
  have ps9 := hps
  unfold wp_X16_seeInput
  unfold w_X16_seeInput_0
  try simp only [forall_eq, rII, rIJ, rIP, rJJ, rJI, rJP, rPP, rPI, rPJ, g1, g2, g3, g4, g5, g6, g7, g8, Nat.reduceEqDiff, Nat.reduceAdd, false_and, and_false, true_and, and_true, reduceIte, nZ0, nZ1]
  refine s2_X16_seeName g rσ (by exact ps9) (fun σ15 r16 rσ15 fc p1 => ?_) (fun σx E rx fx px => hX _ _ rx (Fr.tr fσ (Fr.mor (fx) (by decide) (by decide))) px)
  have fσ15 : Fr ra jx rm [] [4, 5, 7, 8, 9, 10, 11, 12, 13] σ σ15 := Fr.tr fσ (Fr.mor (fc) (by decide) (by decide))
  have ps9 := p1.1; have cq9 := p1.2
  have sσ15_6 := fσ15.2.1 6 (by decide)
  have jσ15 := fσ15.2.2.1
  have pσ15 := fσ15.2.2.2
  have obσ15 := Fr.ob fσ15 hda (by decide)
  try simp only [rII, rIJ, rIP, rJJ, rJI, rJP, rPP, rPI, rPJ, g1, g2, g3, g4, g5, g6, g7, g8, Nat.reduceEqDiff, Nat.reduceAdd, false_and, and_false, true_and, and_true, reduceIte, nZ0, nZ1, sσ15_6.1, sσ15_6.2, fun a k => (jσ15 a k).1, fun a k => (jσ15 a k).2, pσ15, obσ15] at p1
  try simp only [forall_eq, rII, rIJ, rIP, rJJ, rJI, rJP, rPP, rPI, rPJ, g1, g2, g3, g4, g5, g6, g7, g8, Nat.reduceEqDiff, Nat.reduceAdd, false_and, and_false, true_and, and_true, reduceIte, nZ0, nZ1, sσ15_6.1, sσ15_6.2, fun a k => (jσ15 a k).1, fun a k => (jσ15 a k).2, pσ15, obσ15]
  refine ⟨da, by exact hd, hda, ?_⟩
  refine s2_X15_find g rσ15 hda (by (try simp only [rII, rIJ, rIP, rJJ, rJI, rJP, rPP, rPI, rPJ, g1, g2, g3, g4, g5, g6, g7, g8, Nat.reduceEqDiff, Nat.reduceAdd, false_and, and_false, true_and, and_true, reduceIte, nZ0, nZ1, sσ15_6.1, sσ15_6.2, fun a k => (jσ15 a k).1, fun a k => (jσ15 a k).2, pσ15, obσ15]) <;> (first | omega | with_reducible assumption | (unfold rng; omega) | (unfold rng; (repeat' split) <;> omega) | decide)) (fun r19 p2 => ?_)
  try simp only [rII, rIJ, rIP, rJJ, rJI, rJP, rPP, rPI, rPJ, g1, g2, g3, g4, g5, g6, g7, g8, Nat.reduceEqDiff, Nat.reduceAdd, false_and, and_false, true_and, and_true, reduceIte, nZ0, nZ1, sσ15_6.1, sσ15_6.2, fun a k => (jσ15 a k).1, fun a k => (jσ15 a k).2, pσ15, obσ15] at p2
  try simp only [forall_eq, rII, rIJ, rIP, rJJ, rJI, rJP, rPP, rPI, rPJ, g1, g2, g3, g4, g5, g6, g7, g8, Nat.reduceEqDiff, Nat.reduceAdd, false_and, and_false, true_and, and_true, reduceIte, nZ0, nZ1, sσ15_6.1, sσ15_6.2, fun a k => (jσ15 a k).1, fun a k => (jσ15 a k).2, pσ15, obσ15]
  split
  · rename_i hc14
    skip
    unfold w_X16_seeInput_23
    try simp only [forall_eq, rII, rIJ, rIP, rJJ, rJI, rJP, rPP, rPI, rPJ, g1, g2, g3, g4, g5, g6, g7, g8, Nat.reduceEqDiff, Nat.reduceAdd, false_and, and_false, true_and, and_true, reduceIte, nZ0, nZ1, sσ15_6.1, sσ15_6.2, fun a k => (jσ15 a k).1, fun a k => (jσ15 a k).2, pσ15, obσ15]
    refine hQ _ _ ?_ ?_ ?_
    · exact rσ15
    · exact fσ15
    · exact ⟨ps9, by omega, by omega, by omega, by omega, by omega⟩
  · rename_i hc14
    skip
    unfold w_X16_seeInput_17
    try simp only [forall_eq, rII, rIJ, rIP, rJJ, rJI, rJP, rPP, rPI, rPJ, g1, g2, g3, g4, g5, g6, g7, g8, Nat.reduceEqDiff, Nat.reduceAdd, false_and, and_false, true_and, and_true, reduceIte, nZ0, nZ1, sσ15_6.1, sσ15_6.2, fun a k => (jσ15 a k).1, fun a k => (jσ15 a k).2, pσ15, obσ15]
    refine s_X16_fail g rσ15 (by (try simp only [rII, rIJ, rIP, rJJ, rJI, rJP, rPP, rPI, rPJ, g1, g2, g3, g4, g5, g6, g7, g8, Nat.reduceEqDiff, Nat.reduceAdd, false_and, and_false, true_and, and_true, reduceIte, nZ0, nZ1, sσ15_6.1, sσ15_6.2, fun a k => (jσ15 a k).1, fun a k => (jσ15 a k).2, pσ15, obσ15]) <;> (first | omega | with_reducible assumption | (unfold rng; omega) | (unfold rng; (repeat' split) <;> omega) | decide)) (fun σ20 r21 rσ20 fc p3 => ?_)
    have fσ20 : Fr ra jx rm [] [4, 5, 7, 8, 9, 10, 11, 12, 13] σ σ20 := Fr.tr fσ15 (Fr.mor (fc) (by decide) (by decide))
    have cσ20_7 := fc.2.1 7 (by decide)
    have cσ20_8 := fc.2.1 8 (by decide)
    have cσ20_9 := fc.2.1 9 (by decide)
    have cσ20_10 := fc.2.1 10 (by decide)
    have cσ20_13 := fc.2.1 13 (by decide)
    have sσ20_6 := fσ20.2.1 6 (by decide)
    have jσ20 := fσ20.2.2.1
    have pσ20 := fσ20.2.2.2
    have obσ20 := Fr.ob fσ20 hda (by decide)
    try simp only [rII, rIJ, rIP, rJJ, rJI, rJP, rPP, rPI, rPJ, g1, g2, g3, g4, g5, g6, g7, g8, Nat.reduceEqDiff, Nat.reduceAdd, false_and, and_false, true_and, and_true, reduceIte, nZ0, nZ1, sσ20_6.1, sσ20_6.2, fun a k => (jσ20 a k).1, fun a k => (jσ20 a k).2, pσ20, obσ20, cσ20_7.1, cσ20_7.2, cσ20_8.1, cσ20_8.2, cσ20_9.1, cσ20_9.2, cσ20_10.1, cσ20_10.2, cσ20_13.1, cσ20_13.2] at p3
    try simp only [forall_eq, rII, rIJ, rIP, rJJ, rJI, rJP, rPP, rPI, rPJ, g1, g2, g3, g4, g5, g6, g7, g8, Nat.reduceEqDiff, Nat.reduceAdd, false_and, and_false, true_and, and_true, reduceIte, nZ0, nZ1, sσ20_6.1, sσ20_6.2, fun a k => (jσ20 a k).1, fun a k => (jσ20 a k).2, pσ20, obσ20, cσ20_7.1, cσ20_7.2, cσ20_8.1, cσ20_8.2, cσ20_9.1, cσ20_9.2, cσ20_10.1, cσ20_10.2, cσ20_13.1, cσ20_13.2]
    refine ⟨by first | assumption | simp, ?_⟩
    refine hX _ _ ?_ ?_ ?_
    · exact rσ20
    · exact fσ20
    · exact rfl
set_option maxHeartbeats 4000000 in
theorem s2_X16_input {ra : Nat → Nat} {jx : Nat → Nat → Nat} {rm : Nat} {da : Nat} (g : Geo ra jx rm) {σ : Sg} (rσ : Rg ra jx rm σ) (hps : PsI rm σ) (hd : gP σ rm 18 = some da) (hda : da = ra 15 ∨ da = ra 16) (hm : 0 ≤ gI σ da 0 ∧ gI σ da 0 ≤ 16) {Q : Sg → Int → Prop} {X : Sg → String → Prop} (hQ : ∀ (σ' : Sg) (r : Int), Rg ra jx rm σ' → Fr ra jx rm [] [4, 5, 7, 8, 9, 10, 11, 12, 13] σ σ' → (PsI rm σ' ∧ cn rm σ + 1 ≤ cn rm σ' ∧ 0 ≤ r ∧ r < gI σ da 0) → Q σ' r) (hX : ∀ (σ' : Sg) (E : String), Rg ra jx rm σ' → Fr ra jx rm [] [4, 5, 7, 8, 9, 10, 11, 12, 13] σ σ' → (E = "StreamHouseModel$Fault") → X σ' E) : wp_X16_input ra jx rm σ Q X := by
  obtain ⟨g1, g2, g3, g4, g5, g6, g7, g8⟩ := id g
  have fσ : Fr ra jx rm [] [4, 5, 7, 8, 9, 10, 11, 12, 13] σ σ := Fr.rf
  have ps9 := hps
  unfold wp_X16_input
  unfold w_X16_input_0
  try simp only [forall_eq, rII, rIJ, rIP, rJJ, rJI, rJP, rPP, rPI, rPJ, g1, g2, g3, g4, g5, g6, g7, g8, Nat.reduceEqDiff, Nat.reduceAdd, false_and, and_false, true_and, and_true, reduceIte, nZ0, nZ1]
  refine s2_X16_seeInput g rσ (by exact ps9) (by first | exact hd | (rw [fσ.2.2.2]; exact hd) | (rw [fσ.2.2.2.1 (by decide)]; exact hd)) hda (by (try simp only [rII, rIJ, rIP, rJJ, rJI, rJP, rPP, rPI, rPJ, g1, g2, g3, g4, g5, g6, g7, g8, Nat.reduceEqDiff, Nat.reduceAdd, false_and, and_false, true_and, and_true, reduceIte, nZ0, nZ1]) <;> (first | omega | with_reducible assumption | (unfold rng; omega) | (unfold rng; (repeat' split) <;> omega) | decide)) (fun σ7 r8 rσ7 fc p1 => ?_) (fun σx E rx fx px => hX _ _ rx (Fr.tr fσ (Fr.mor (fx) (by decide) (by decide))) px)
  have fσ7 : Fr ra jx rm [] [4, 5, 7, 8, 9, 10, 11, 12, 13] σ σ7 := Fr.tr fσ (Fr.mor (fc) (by decide) (by decide))
  have ps9 := p1.1; have cq9 := p1.2
  have sσ7_6 := fσ7.2.1 6 (by decide)
  have jσ7 := fσ7.2.2.1
  have obσ7 := Fr.ob fσ7 hda (by decide)
  try simp only [rII, rIJ, rIP, rJJ, rJI, rJP, rPP, rPI, rPJ, g1, g2, g3, g4, g5, g6, g7, g8, Nat.reduceEqDiff, Nat.reduceAdd, false_and, and_false, true_and, and_true, reduceIte, nZ0, nZ1, sσ7_6.1, sσ7_6.2, fun a k => (jσ7 a k).1, fun a k => (jσ7 a k).2, obσ7] at p1
  try simp only [forall_eq, rII, rIJ, rIP, rJJ, rJI, rJP, rPP, rPI, rPJ, g1, g2, g3, g4, g5, g6, g7, g8, Nat.reduceEqDiff, Nat.reduceAdd, false_and, and_false, true_and, and_true, reduceIte, nZ0, nZ1, sσ7_6.1, sσ7_6.2, fun a k => (jσ7 a k).1, fun a k => (jσ7 a k).2, obσ7]
  refine s2_X16_take g rσ7 (by exact ps9) (by omega) (by omega) (fun σ9 _ rσ9 fc p2 => ?_)
  have fσ9 : Fr ra jx rm [] [4, 5, 7, 8, 9, 10, 11, 12, 13] σ σ9 := Fr.tr fσ7 (Fr.mor (fc) (by decide) (by decide))
  have cσ9_7 := fc.2.1 7 (by decide)
  have cσ9_9 := fc.2.1 9 (by decide)
  have cσ9_10 := fc.2.1 10 (by decide)
  have cσ9_13 := fc.2.1 13 (by decide)
  have ps9 := p2.1; have cq9 := p2.2
  have sσ9_6 := fσ9.2.1 6 (by decide)
  have jσ9 := fσ9.2.2.1
  have obσ9 := Fr.ob fσ9 hda (by decide)
  try simp only [rII, rIJ, rIP, rJJ, rJI, rJP, rPP, rPI, rPJ, g1, g2, g3, g4, g5, g6, g7, g8, Nat.reduceEqDiff, Nat.reduceAdd, false_and, and_false, true_and, and_true, reduceIte, nZ0, nZ1, sσ9_6.1, sσ9_6.2, fun a k => (jσ9 a k).1, fun a k => (jσ9 a k).2, obσ9, cσ9_7.1, cσ9_7.2, cσ9_9.1, cσ9_9.2, cσ9_10.1, cσ9_10.2, cσ9_13.1, cσ9_13.2] at p2
  try simp only [forall_eq, rII, rIJ, rIP, rJJ, rJI, rJP, rPP, rPI, rPJ, g1, g2, g3, g4, g5, g6, g7, g8, Nat.reduceEqDiff, Nat.reduceAdd, false_and, and_false, true_and, and_true, reduceIte, nZ0, nZ1, sσ9_6.1, sσ9_6.2, fun a k => (jσ9 a k).1, fun a k => (jσ9 a k).2, obσ9, cσ9_7.1, cσ9_7.2, cσ9_9.1, cσ9_9.2, cσ9_10.1, cσ9_10.2, cσ9_13.1, cσ9_13.2]
  refine hQ _ _ ?_ ?_ ?_
  · exact rσ9
  · exact fσ9
  · exact ⟨ps9, by omega, by omega, by omega⟩
set_option maxHeartbeats 4000000 in
theorem s2_X16_signed {ra : Nat → Nat} {jx : Nat → Nat → Nat} {rm : Nat} (g : Geo ra jx rm) {σ : Sg} {v1 : Int} {v2 : Int64} (rσ : Rg ra jx rm σ) (hps : PsI rm σ) (b1 : (v1 = 0 ∨ v1 = 1)) {Q : Sg → Int64 → Prop} {X : Sg → String → Prop} (hQ : ∀ (σ' : Sg) (r : Int64), Rg ra jx rm σ' → Fr ra jx rm [] [4, 5, 7, 8, 9, 10, 11, 12, 13] σ σ' → (PsI rm σ' ∧ cn rm σ + 1 ≤ cn rm σ') → Q σ' r) (hX : ∀ (σ' : Sg) (E : String), Rg ra jx rm σ' → Fr ra jx rm [] [4, 5, 7, 8, 9, 10, 11, 12, 13] σ σ' → (E = "StreamHouseModel$Fault") → X σ' E) : wp_X16_signed ra jx rm v1 v2 σ Q X := by
  obtain ⟨g1, g2, g3, g4, g5, g6, g7, g8⟩ := id g
  have fσ : Fr ra jx rm [] [4, 5, 7, 8, 9, 10, 11, 12, 13] σ σ := Fr.rf
  have ps9 := hps
  unfold wp_X16_signed
  unfold w_X16_signed_0
  try simp only [forall_eq, rII, rIJ, rIP, rJJ, rJI, rJP, rPP, rPI, rPJ, g1, g2, g3, g4, g5, g6, g7, g8, Nat.reduceEqDiff, Nat.reduceAdd, false_and, and_false, true_and, and_true, reduceIte, nZ0, nZ1]
  refine s2_X16_see g rσ (by exact ps9) (fun σ17 _ rσ17 fc p1 => ?_) (fun σx E rx fx px => hX _ _ rx (Fr.tr fσ (Fr.mor (fx) (by decide) (by decide))) px)
  have fσ17 : Fr ra jx rm [] [4, 5, 7, 8, 9, 10, 11, 12, 13] σ σ17 := Fr.tr fσ (Fr.mor (fc) (by decide) (by decide))
  have ps9 := p1.1; have cq9 := p1.2
  have sσ17_6 := fσ17.2.1 6 (by decide)
  have jσ17 := fσ17.2.2.1
  try simp only [rII, rIJ, rIP, rJJ, rJI, rJP, rPP, rPI, rPJ, g1, g2, g3, g4, g5, g6, g7, g8, Nat.reduceEqDiff, Nat.reduceAdd, false_and, and_false, true_and, and_true, reduceIte, nZ0, nZ1, sσ17_6.1, sσ17_6.2, fun a k => (jσ17 a k).1, fun a k => (jσ17 a k).2] at p1
  try simp only [forall_eq, rII, rIJ, rIP, rJJ, rJI, rJP, rPP, rPI, rPJ, g1, g2, g3, g4, g5, g6, g7, g8, Nat.reduceEqDiff, Nat.reduceAdd, false_and, and_false, true_and, and_true, reduceIte, nZ0, nZ1, sσ17_6.1, sσ17_6.2, fun a k => (jσ17 a k).1, fun a k => (jσ17 a k).2]
  have q2 := rσ17.2.1 9; simp only [rgS] at q2
  split
  · rename_i hc10
    skip
    unfold w_X16_signed_17
    try simp only [forall_eq, rII, rIJ, rIP, rJJ, rJI, rJP, rPP, rPI, rPJ, g1, g2, g3, g4, g5, g6, g7, g8, Nat.reduceEqDiff, Nat.reduceAdd, false_and, and_false, true_and, and_true, reduceIte, nZ0, nZ1, sσ17_6.1, sσ17_6.2, fun a k => (jσ17 a k).1, fun a k => (jσ17 a k).2]
    unfold w_X16_signed_18
    try simp only [forall_eq, rII, rIJ, rIP, rJJ, rJI, rJP, rPP, rPI, rPJ, g1, g2, g3, g4, g5, g6, g7, g8, Nat.reduceEqDiff, Nat.reduceAdd, false_and, and_false, true_and, and_true, reduceIte, nZ0, nZ1, sσ17_6.1, sσ17_6.2, fun a k => (jσ17 a k).1, fun a k => (jσ17 a k).2]
    try rw [if_pos (by decide)]
    unfold w_X16_signed_29
    try simp only [forall_eq, rII, rIJ, rIP, rJJ, rJI, rJP, rPP, rPI, rPJ, g1, g2, g3, g4, g5, g6, g7, g8, Nat.reduceEqDiff, Nat.reduceAdd, false_and, and_false, true_and, and_true, reduceIte, nZ0, nZ1, sσ17_6.1, sσ17_6.2, fun a k => (jσ17 a k).1, fun a k => (jσ17 a k).2]
    refine s2_X16_see g rσ17 (by exact ps9) (fun σ18 _ rσ18 fc p3 => ?_) (fun σx E rx fx px => hX _ _ rx (Fr.tr fσ17 (Fr.mor (fx) (by decide) (by decide))) px)
    have fσ18 : Fr ra jx rm [] [4, 5, 7, 8, 9, 10, 11, 12, 13] σ σ18 := Fr.tr fσ17 (Fr.mor (fc) (by decide) (by decide))
    have ps9 := p3.1; have cq9 := p3.2
    have sσ18_6 := fσ18.2.1 6 (by decide)
    have jσ18 := fσ18.2.2.1
    try simp only [rII, rIJ, rIP, rJJ, rJI, rJP, rPP, rPI, rPJ, g1, g2, g3, g4, g5, g6, g7, g8, Nat.reduceEqDiff, Nat.reduceAdd, false_and, and_false, true_and, and_true, reduceIte, nZ0, nZ1, sσ18_6.1, sσ18_6.2, fun a k => (jσ18 a k).1, fun a k => (jσ18 a k).2] at p3
    try simp only [forall_eq, rII, rIJ, rIP, rJJ, rJI, rJP, rPP, rPI, rPJ, g1, g2, g3, g4, g5, g6, g7, g8, Nat.reduceEqDiff, Nat.reduceAdd, false_and, and_false, true_and, and_true, reduceIte, nZ0, nZ1, sσ18_6.1, sσ18_6.2, fun a k => (jσ18 a k).1, fun a k => (jσ18 a k).2]
    have q4 := rσ18.2.1 9; simp only [rgS] at q4
    split
    · rename_i hc38
      skip
      unfold w_X16_signed_46
      try simp only [forall_eq, rII, rIJ, rIP, rJJ, rJI, rJP, rPP, rPI, rPJ, g1, g2, g3, g4, g5, g6, g7, g8, Nat.reduceEqDiff, Nat.reduceAdd, false_and, and_false, true_and, and_true, reduceIte, nZ0, nZ1, sσ18_6.1, sσ18_6.2, fun a k => (jσ18 a k).1, fun a k => (jσ18 a k).2]
      try rw [if_pos (by decide)]
      unfold w_X16_signed_59
      try simp only [forall_eq, rII, rIJ, rIP, rJJ, rJI, rJP, rPP, rPI, rPJ, g1, g2, g3, g4, g5, g6, g7, g8, Nat.reduceEqDiff, Nat.reduceAdd, false_and, and_false, true_and, and_true, reduceIte, nZ0, nZ1, sσ18_6.1, sσ18_6.2, fun a k => (jσ18 a k).1, fun a k => (jσ18 a k).2]
      unfold w_X16_signed_63
      try simp only [forall_eq, rII, rIJ, rIP, rJJ, rJI, rJP, rPP, rPI, rPJ, g1, g2, g3, g4, g5, g6, g7, g8, Nat.reduceEqDiff, Nat.reduceAdd, false_and, and_false, true_and, and_true, reduceIte, nZ0, nZ1, sσ18_6.1, sσ18_6.2, fun a k => (jσ18 a k).1, fun a k => (jσ18 a k).2]
      split
      · rename_i hc73
        skip
        unfold w_X16_signed_87
        try simp only [forall_eq, rII, rIJ, rIP, rJJ, rJI, rJP, rPP, rPI, rPJ, g1, g2, g3, g4, g5, g6, g7, g8, Nat.reduceEqDiff, Nat.reduceAdd, false_and, and_false, true_and, and_true, reduceIte, nZ0, nZ1, sσ18_6.1, sσ18_6.2, fun a k => (jσ18 a k).1, fun a k => (jσ18 a k).2]
        refine s_X16_fail g rσ18 (by (try simp only [rII, rIJ, rIP, rJJ, rJI, rJP, rPP, rPI, rPJ, g1, g2, g3, g4, g5, g6, g7, g8, Nat.reduceEqDiff, Nat.reduceAdd, false_and, and_false, true_and, and_true, reduceIte, nZ0, nZ1, sσ18_6.1, sσ18_6.2, fun a k => (jσ18 a k).1, fun a k => (jσ18 a k).2]) <;> (first | omega | with_reducible assumption | (unfold rng; omega) | (unfold rng; (repeat' split) <;> omega) | decide)) (fun σ19 r20 rσ19 fc p5 => ?_)
        have fσ19 : Fr ra jx rm [] [4, 5, 7, 8, 9, 10, 11, 12, 13] σ σ19 := Fr.tr fσ18 (Fr.mor (fc) (by decide) (by decide))
        have cσ19_7 := fc.2.1 7 (by decide)
        have cσ19_8 := fc.2.1 8 (by decide)
        have cσ19_9 := fc.2.1 9 (by decide)
        have cσ19_10 := fc.2.1 10 (by decide)
        have cσ19_13 := fc.2.1 13 (by decide)
        have sσ19_6 := fσ19.2.1 6 (by decide)
        have jσ19 := fσ19.2.2.1
        try simp only [rII, rIJ, rIP, rJJ, rJI, rJP, rPP, rPI, rPJ, g1, g2, g3, g4, g5, g6, g7, g8, Nat.reduceEqDiff, Nat.reduceAdd, false_and, and_false, true_and, and_true, reduceIte, nZ0, nZ1, sσ19_6.1, sσ19_6.2, fun a k => (jσ19 a k).1, fun a k => (jσ19 a k).2, cσ19_7.1, cσ19_7.2, cσ19_8.1, cσ19_8.2, cσ19_9.1, cσ19_9.2, cσ19_10.1, cσ19_10.2, cσ19_13.1, cσ19_13.2] at p5
        try simp only [forall_eq, rII, rIJ, rIP, rJJ, rJI, rJP, rPP, rPI, rPJ, g1, g2, g3, g4, g5, g6, g7, g8, Nat.reduceEqDiff, Nat.reduceAdd, false_and, and_false, true_and, and_true, reduceIte, nZ0, nZ1, sσ19_6.1, sσ19_6.2, fun a k => (jσ19 a k).1, fun a k => (jσ19 a k).2, cσ19_7.1, cσ19_7.2, cσ19_8.1, cσ19_8.2, cσ19_9.1, cσ19_9.2, cσ19_10.1, cσ19_10.2, cσ19_13.1, cσ19_13.2]
        refine ⟨by first | assumption | simp, ?_⟩
        refine hX _ _ ?_ ?_ ?_
        · exact rσ19
        · exact fσ19
        · exact rfl
      · rename_i hc73
        skip
        unfold w_X16_signed_76
        try simp only [forall_eq, rII, rIJ, rIP, rJJ, rJI, rJP, rPP, rPI, rPJ, g1, g2, g3, g4, g5, g6, g7, g8, Nat.reduceEqDiff, Nat.reduceAdd, false_and, and_false, true_and, and_true, reduceIte, nZ0, nZ1, sσ18_6.1, sσ18_6.2, fun a k => (jσ18 a k).1, fun a k => (jσ18 a k).2]
        split
        · rename_i hc77
          skip
          unfold w_X16_signed_94
          try simp only [forall_eq, rII, rIJ, rIP, rJJ, rJI, rJP, rPP, rPI, rPJ, g1, g2, g3, g4, g5, g6, g7, g8, Nat.reduceEqDiff, Nat.reduceAdd, false_and, and_false, true_and, and_true, reduceIte, nZ0, nZ1, sσ18_6.1, sσ18_6.2, fun a k => (jσ18 a k).1, fun a k => (jσ18 a k).2]
          refine s2_X16_take g rσ18 (by exact ps9) (by omega) (by omega) (fun σ21 _ rσ21 fc p6 => ?_)
          have fσ21 : Fr ra jx rm [] [4, 5, 7, 8, 9, 10, 11, 12, 13] σ σ21 := Fr.tr fσ18 (Fr.mor (fc) (by decide) (by decide))
          have cσ21_7 := fc.2.1 7 (by decide)
          have cσ21_9 := fc.2.1 9 (by decide)
          have cσ21_10 := fc.2.1 10 (by decide)
          have cσ21_13 := fc.2.1 13 (by decide)
          have ps9 := p6.1; have cq9 := p6.2
          have sσ21_6 := fσ21.2.1 6 (by decide)
          have jσ21 := fσ21.2.2.1
          try simp only [rII, rIJ, rIP, rJJ, rJI, rJP, rPP, rPI, rPJ, g1, g2, g3, g4, g5, g6, g7, g8, Nat.reduceEqDiff, Nat.reduceAdd, false_and, and_false, true_and, and_true, reduceIte, nZ0, nZ1, sσ21_6.1, sσ21_6.2, fun a k => (jσ21 a k).1, fun a k => (jσ21 a k).2, cσ21_7.1, cσ21_7.2, cσ21_9.1, cσ21_9.2, cσ21_10.1, cσ21_10.2, cσ21_13.1, cσ21_13.2] at p6
          try simp only [forall_eq, rII, rIJ, rIP, rJJ, rJI, rJP, rPP, rPI, rPJ, g1, g2, g3, g4, g5, g6, g7, g8, Nat.reduceEqDiff, Nat.reduceAdd, false_and, and_false, true_and, and_true, reduceIte, nZ0, nZ1, sσ21_6.1, sσ21_6.2, fun a k => (jσ21 a k).1, fun a k => (jσ21 a k).2, cσ21_7.1, cσ21_7.2, cσ21_9.1, cσ21_9.2, cσ21_10.1, cσ21_10.2, cσ21_13.1, cσ21_13.2]
          refine hQ _ _ ?_ ?_ ?_
          · exact rσ21
          · exact fσ21
          · exact ⟨ps9, by omega⟩
        · rename_i hc77
          skip
          unfold w_X16_signed_80
          try simp only [forall_eq, rII, rIJ, rIP, rJJ, rJI, rJP, rPP, rPI, rPJ, g1, g2, g3, g4, g5, g6, g7, g8, Nat.reduceEqDiff, Nat.reduceAdd, false_and, and_false, true_and, and_true, reduceIte, nZ0, nZ1, sσ18_6.1, sσ18_6.2, fun a k => (jσ18 a k).1, fun a k => (jσ18 a k).2]
          split
          · rename_i hc84
            skip
            unfold w_X16_signed_94
            try simp only [forall_eq, rII, rIJ, rIP, rJJ, rJI, rJP, rPP, rPI, rPJ, g1, g2, g3, g4, g5, g6, g7, g8, Nat.reduceEqDiff, Nat.reduceAdd, false_and, and_false, true_and, and_true, reduceIte, nZ0, nZ1, sσ18_6.1, sσ18_6.2, fun a k => (jσ18 a k).1, fun a k => (jσ18 a k).2]
            refine s2_X16_take g rσ18 (by exact ps9) (by omega) (by omega) (fun σ22 _ rσ22 fc p7 => ?_)
            have fσ22 : Fr ra jx rm [] [4, 5, 7, 8, 9, 10, 11, 12, 13] σ σ22 := Fr.tr fσ18 (Fr.mor (fc) (by decide) (by decide))
            have cσ22_7 := fc.2.1 7 (by decide)
            have cσ22_9 := fc.2.1 9 (by decide)
            have cσ22_10 := fc.2.1 10 (by decide)
            have cσ22_13 := fc.2.1 13 (by decide)
            have ps9 := p7.1; have cq9 := p7.2
            have sσ22_6 := fσ22.2.1 6 (by decide)
            have jσ22 := fσ22.2.2.1
            try simp only [rII, rIJ, rIP, rJJ, rJI, rJP, rPP, rPI, rPJ, g1, g2, g3, g4, g5, g6, g7, g8, Nat.reduceEqDiff, Nat.reduceAdd, false_and, and_false, true_and, and_true, reduceIte, nZ0, nZ1, sσ22_6.1, sσ22_6.2, fun a k => (jσ22 a k).1, fun a k => (jσ22 a k).2, cσ22_7.1, cσ22_7.2, cσ22_9.1, cσ22_9.2, cσ22_10.1, cσ22_10.2, cσ22_13.1, cσ22_13.2] at p7
            try simp only [forall_eq, rII, rIJ, rIP, rJJ, rJI, rJP, rPP, rPI, rPJ, g1, g2, g3, g4, g5, g6, g7, g8, Nat.reduceEqDiff, Nat.reduceAdd, false_and, and_false, true_and, and_true, reduceIte, nZ0, nZ1, sσ22_6.1, sσ22_6.2, fun a k => (jσ22 a k).1, fun a k => (jσ22 a k).2, cσ22_7.1, cσ22_7.2, cσ22_9.1, cσ22_9.2, cσ22_10.1, cσ22_10.2, cσ22_13.1, cσ22_13.2]
            refine hQ _ _ ?_ ?_ ?_
            · exact rσ22
            · exact fσ22
            · exact ⟨ps9, by omega⟩
          · rename_i hc84
            skip
            unfold w_X16_signed_87
            try simp only [forall_eq, rII, rIJ, rIP, rJJ, rJI, rJP, rPP, rPI, rPJ, g1, g2, g3, g4, g5, g6, g7, g8, Nat.reduceEqDiff, Nat.reduceAdd, false_and, and_false, true_and, and_true, reduceIte, nZ0, nZ1, sσ18_6.1, sσ18_6.2, fun a k => (jσ18 a k).1, fun a k => (jσ18 a k).2]
            refine s_X16_fail g rσ18 (by (try simp only [rII, rIJ, rIP, rJJ, rJI, rJP, rPP, rPI, rPJ, g1, g2, g3, g4, g5, g6, g7, g8, Nat.reduceEqDiff, Nat.reduceAdd, false_and, and_false, true_and, and_true, reduceIte, nZ0, nZ1, sσ18_6.1, sσ18_6.2, fun a k => (jσ18 a k).1, fun a k => (jσ18 a k).2]) <;> (first | omega | with_reducible assumption | (unfold rng; omega) | (unfold rng; (repeat' split) <;> omega) | decide)) (fun σ23 r24 rσ23 fc p8 => ?_)
            have fσ23 : Fr ra jx rm [] [4, 5, 7, 8, 9, 10, 11, 12, 13] σ σ23 := Fr.tr fσ18 (Fr.mor (fc) (by decide) (by decide))
            have cσ23_7 := fc.2.1 7 (by decide)
            have cσ23_8 := fc.2.1 8 (by decide)
            have cσ23_9 := fc.2.1 9 (by decide)
            have cσ23_10 := fc.2.1 10 (by decide)
            have cσ23_13 := fc.2.1 13 (by decide)
            have sσ23_6 := fσ23.2.1 6 (by decide)
            have jσ23 := fσ23.2.2.1
            try simp only [rII, rIJ, rIP, rJJ, rJI, rJP, rPP, rPI, rPJ, g1, g2, g3, g4, g5, g6, g7, g8, Nat.reduceEqDiff, Nat.reduceAdd, false_and, and_false, true_and, and_true, reduceIte, nZ0, nZ1, sσ23_6.1, sσ23_6.2, fun a k => (jσ23 a k).1, fun a k => (jσ23 a k).2, cσ23_7.1, cσ23_7.2, cσ23_8.1, cσ23_8.2, cσ23_9.1, cσ23_9.2, cσ23_10.1, cσ23_10.2, cσ23_13.1, cσ23_13.2] at p8
            try simp only [forall_eq, rII, rIJ, rIP, rJJ, rJI, rJP, rPP, rPI, rPJ, g1, g2, g3, g4, g5, g6, g7, g8, Nat.reduceEqDiff, Nat.reduceAdd, false_and, and_false, true_and, and_true, reduceIte, nZ0, nZ1, sσ23_6.1, sσ23_6.2, fun a k => (jσ23 a k).1, fun a k => (jσ23 a k).2, cσ23_7.1, cσ23_7.2, cσ23_8.1, cσ23_8.2, cσ23_9.1, cσ23_9.2, cσ23_10.1, cσ23_10.2, cσ23_13.1, cσ23_13.2]
            refine ⟨by first | assumption | simp, ?_⟩
            refine hX _ _ ?_ ?_ ?_
            · exact rσ23
            · exact fσ23
            · exact rfl
    · rename_i hc38
      skip
      unfold w_X16_signed_41
      try simp only [forall_eq, rII, rIJ, rIP, rJJ, rJI, rJP, rPP, rPI, rPJ, g1, g2, g3, g4, g5, g6, g7, g8, Nat.reduceEqDiff, Nat.reduceAdd, false_and, and_false, true_and, and_true, reduceIte, nZ0, nZ1, sσ18_6.1, sσ18_6.2, fun a k => (jσ18 a k).1, fun a k => (jσ18 a k).2]
      refine s_X16_misplaced g rσ18 (fun σ25 r26 rσ25 fc p9 => ?_)
      have fσ25 : Fr ra jx rm [] [4, 5, 7, 8, 9, 10, 11, 12, 13] σ σ25 := Fr.tr fσ18 (Fr.mor (fc) (by decide) (by decide))
      have cσ25_7 := fc.2.1 7 (by decide)
      have cσ25_8 := fc.2.1 8 (by decide)
      have cσ25_9 := fc.2.1 9 (by decide)
      have cσ25_10 := fc.2.1 10 (by decide)
      have cσ25_13 := fc.2.1 13 (by decide)
      have sσ25_6 := fσ25.2.1 6 (by decide)
      have jσ25 := fσ25.2.2.1
      try simp only [rII, rIJ, rIP, rJJ, rJI, rJP, rPP, rPI, rPJ, g1, g2, g3, g4, g5, g6, g7, g8, Nat.reduceEqDiff, Nat.reduceAdd, false_and, and_false, true_and, and_true, reduceIte, nZ0, nZ1, sσ25_6.1, sσ25_6.2, fun a k => (jσ25 a k).1, fun a k => (jσ25 a k).2, cσ25_7.1, cσ25_7.2, cσ25_8.1, cσ25_8.2, cσ25_9.1, cσ25_9.2, cσ25_10.1, cσ25_10.2, cσ25_13.1, cσ25_13.2] at p9
      try simp only [forall_eq, rII, rIJ, rIP, rJJ, rJI, rJP, rPP, rPI, rPJ, g1, g2, g3, g4, g5, g6, g7, g8, Nat.reduceEqDiff, Nat.reduceAdd, false_and, and_false, true_and, and_true, reduceIte, nZ0, nZ1, sσ25_6.1, sσ25_6.2, fun a k => (jσ25 a k).1, fun a k => (jσ25 a k).2, cσ25_7.1, cσ25_7.2, cσ25_8.1, cσ25_8.2, cσ25_9.1, cσ25_9.2, cσ25_10.1, cσ25_10.2, cσ25_13.1, cσ25_13.2]
      refine ⟨by first | assumption | simp, ?_⟩
      refine hX _ _ ?_ ?_ ?_
      · exact rσ25
      · exact fσ25
      · exact rfl
  · rename_i hc10
    skip
    unfold w_X16_signed_13
    try simp only [forall_eq, rII, rIJ, rIP, rJJ, rJI, rJP, rPP, rPI, rPJ, g1, g2, g3, g4, g5, g6, g7, g8, Nat.reduceEqDiff, Nat.reduceAdd, false_and, and_false, true_and, and_true, reduceIte, nZ0, nZ1, sσ17_6.1, sσ17_6.2, fun a k => (jσ17 a k).1, fun a k => (jσ17 a k).2]
    unfold w_X16_signed_18
    try simp only [forall_eq, rII, rIJ, rIP, rJJ, rJI, rJP, rPP, rPI, rPJ, g1, g2, g3, g4, g5, g6, g7, g8, Nat.reduceEqDiff, Nat.reduceAdd, false_and, and_false, true_and, and_true, reduceIte, nZ0, nZ1, sσ17_6.1, sσ17_6.2, fun a k => (jσ17 a k).1, fun a k => (jσ17 a k).2]
    try rw [if_neg (by decide)]
    unfold w_X16_signed_25
    try simp only [forall_eq, rII, rIJ, rIP, rJJ, rJI, rJP, rPP, rPI, rPJ, g1, g2, g3, g4, g5, g6, g7, g8, Nat.reduceEqDiff, Nat.reduceAdd, false_and, and_false, true_and, and_true, reduceIte, nZ0, nZ1, sσ17_6.1, sσ17_6.2, fun a k => (jσ17 a k).1, fun a k => (jσ17 a k).2]
    refine s2_X16_take g rσ17 (by exact ps9) (by omega) (by omega) (fun σ27 _ rσ27 fc p10 => ?_)
    have fσ27 : Fr ra jx rm [] [4, 5, 7, 8, 9, 10, 11, 12, 13] σ σ27 := Fr.tr fσ17 (Fr.mor (fc) (by decide) (by decide))
    have cσ27_7 := fc.2.1 7 (by decide)
    have cσ27_9 := fc.2.1 9 (by decide)
    have cσ27_10 := fc.2.1 10 (by decide)
    have cσ27_13 := fc.2.1 13 (by decide)
    have ps9 := p10.1; have cq9 := p10.2
    have sσ27_6 := fσ27.2.1 6 (by decide)
    have jσ27 := fσ27.2.2.1
    try simp only [rII, rIJ, rIP, rJJ, rJI, rJP, rPP, rPI, rPJ, g1, g2, g3, g4, g5, g6, g7, g8, Nat.reduceEqDiff, Nat.reduceAdd, false_and, and_false, true_and, and_true, reduceIte, nZ0, nZ1, sσ27_6.1, sσ27_6.2, fun a k => (jσ27 a k).1, fun a k => (jσ27 a k).2, cσ27_7.1, cσ27_7.2, cσ27_9.1, cσ27_9.2, cσ27_10.1, cσ27_10.2, cσ27_13.1, cσ27_13.2] at p10
    try simp only [forall_eq, rII, rIJ, rIP, rJJ, rJI, rJP, rPP, rPI, rPJ, g1, g2, g3, g4, g5, g6, g7, g8, Nat.reduceEqDiff, Nat.reduceAdd, false_and, and_false, true_and, and_true, reduceIte, nZ0, nZ1, sσ27_6.1, sσ27_6.2, fun a k => (jσ27 a k).1, fun a k => (jσ27 a k).2, cσ27_7.1, cσ27_7.2, cσ27_9.1, cσ27_9.2, cσ27_10.1, cσ27_10.2, cσ27_13.1, cσ27_13.2]
    unfold w_X16_signed_29
    try simp only [forall_eq, rII, rIJ, rIP, rJJ, rJI, rJP, rPP, rPI, rPJ, g1, g2, g3, g4, g5, g6, g7, g8, Nat.reduceEqDiff, Nat.reduceAdd, false_and, and_false, true_and, and_true, reduceIte, nZ0, nZ1, sσ27_6.1, sσ27_6.2, fun a k => (jσ27 a k).1, fun a k => (jσ27 a k).2, cσ27_7.1, cσ27_7.2, cσ27_9.1, cσ27_9.2, cσ27_10.1, cσ27_10.2, cσ27_13.1, cσ27_13.2]
    refine s2_X16_see g rσ27 (by exact ps9) (fun σ28 _ rσ28 fc p11 => ?_) (fun σx E rx fx px => hX _ _ rx (Fr.tr fσ27 (Fr.mor (fx) (by decide) (by decide))) px)
    have fσ28 : Fr ra jx rm [] [4, 5, 7, 8, 9, 10, 11, 12, 13] σ σ28 := Fr.tr fσ27 (Fr.mor (fc) (by decide) (by decide))
    have ps9 := p11.1; have cq9 := p11.2
    have sσ28_6 := fσ28.2.1 6 (by decide)
    have jσ28 := fσ28.2.2.1
    try simp only [rII, rIJ, rIP, rJJ, rJI, rJP, rPP, rPI, rPJ, g1, g2, g3, g4, g5, g6, g7, g8, Nat.reduceEqDiff, Nat.reduceAdd, false_and, and_false, true_and, and_true, reduceIte, nZ0, nZ1, sσ28_6.1, sσ28_6.2, fun a k => (jσ28 a k).1, fun a k => (jσ28 a k).2, cσ27_7.1, cσ27_7.2, cσ27_9.1, cσ27_9.2, cσ27_10.1, cσ27_10.2, cσ27_13.1, cσ27_13.2] at p11
    try simp only [forall_eq, rII, rIJ, rIP, rJJ, rJI, rJP, rPP, rPI, rPJ, g1, g2, g3, g4, g5, g6, g7, g8, Nat.reduceEqDiff, Nat.reduceAdd, false_and, and_false, true_and, and_true, reduceIte, nZ0, nZ1, sσ28_6.1, sσ28_6.2, fun a k => (jσ28 a k).1, fun a k => (jσ28 a k).2, cσ27_7.1, cσ27_7.2, cσ27_9.1, cσ27_9.2, cσ27_10.1, cσ27_10.2, cσ27_13.1, cσ27_13.2]
    have q12 := rσ28.2.1 9; simp only [rgS] at q12
    split
    · rename_i hc38
      skip
      unfold w_X16_signed_46
      try simp only [forall_eq, rII, rIJ, rIP, rJJ, rJI, rJP, rPP, rPI, rPJ, g1, g2, g3, g4, g5, g6, g7, g8, Nat.reduceEqDiff, Nat.reduceAdd, false_and, and_false, true_and, and_true, reduceIte, nZ0, nZ1, sσ28_6.1, sσ28_6.2, fun a k => (jσ28 a k).1, fun a k => (jσ28 a k).2, cσ27_7.1, cσ27_7.2, cσ27_9.1, cσ27_9.2, cσ27_10.1, cσ27_10.2, cσ27_13.1, cσ27_13.2]
      try rw [if_neg (by decide)]
      unfold w_X16_signed_51
      try simp only [forall_eq, rII, rIJ, rIP, rJJ, rJI, rJP, rPP, rPI, rPJ, g1, g2, g3, g4, g5, g6, g7, g8, Nat.reduceEqDiff, Nat.reduceAdd, false_and, and_false, true_and, and_true, reduceIte, nZ0, nZ1, sσ28_6.1, sσ28_6.2, fun a k => (jσ28 a k).1, fun a k => (jσ28 a k).2, cσ27_7.1, cσ27_7.2, cσ27_9.1, cσ27_9.2, cσ27_10.1, cσ27_10.2, cσ27_13.1, cσ27_13.2]
      unfold w_X16_signed_63
      try simp only [forall_eq, rII, rIJ, rIP, rJJ, rJI, rJP, rPP, rPI, rPJ, g1, g2, g3, g4, g5, g6, g7, g8, Nat.reduceEqDiff, Nat.reduceAdd, false_and, and_false, true_and, and_true, reduceIte, nZ0, nZ1, sσ28_6.1, sσ28_6.2, fun a k => (jσ28 a k).1, fun a k => (jσ28 a k).2, cσ27_7.1, cσ27_7.2, cσ27_9.1, cσ27_9.2, cσ27_10.1, cσ27_10.2, cσ27_13.1, cσ27_13.2]
      split
      · rename_i hc73
        skip
        unfold w_X16_signed_87
        try simp only [forall_eq, rII, rIJ, rIP, rJJ, rJI, rJP, rPP, rPI, rPJ, g1, g2, g3, g4, g5, g6, g7, g8, Nat.reduceEqDiff, Nat.reduceAdd, false_and, and_false, true_and, and_true, reduceIte, nZ0, nZ1, sσ28_6.1, sσ28_6.2, fun a k => (jσ28 a k).1, fun a k => (jσ28 a k).2, cσ27_7.1, cσ27_7.2, cσ27_9.1, cσ27_9.2, cσ27_10.1, cσ27_10.2, cσ27_13.1, cσ27_13.2]
        refine s_X16_fail g rσ28 (by (try simp only [rII, rIJ, rIP, rJJ, rJI, rJP, rPP, rPI, rPJ, g1, g2, g3, g4, g5, g6, g7, g8, Nat.reduceEqDiff, Nat.reduceAdd, false_and, and_false, true_and, and_true, reduceIte, nZ0, nZ1, sσ28_6.1, sσ28_6.2, fun a k => (jσ28 a k).1, fun a k => (jσ28 a k).2, cσ27_7.1, cσ27_7.2, cσ27_9.1, cσ27_9.2, cσ27_10.1, cσ27_10.2, cσ27_13.1, cσ27_13.2]) <;> (first | omega | with_reducible assumption | (unfold rng; omega) | (unfold rng; (repeat' split) <;> omega) | decide)) (fun σ29 r30 rσ29 fc p13 => ?_)
        have fσ29 : Fr ra jx rm [] [4, 5, 7, 8, 9, 10, 11, 12, 13] σ σ29 := Fr.tr fσ28 (Fr.mor (fc) (by decide) (by decide))
        have cσ29_7 := fc.2.1 7 (by decide)
        have cσ29_8 := fc.2.1 8 (by decide)
        have cσ29_9 := fc.2.1 9 (by decide)
        have cσ29_10 := fc.2.1 10 (by decide)
        have cσ29_13 := fc.2.1 13 (by decide)
        have sσ29_6 := fσ29.2.1 6 (by decide)
        have jσ29 := fσ29.2.2.1
        try simp only [rII, rIJ, rIP, rJJ, rJI, rJP, rPP, rPI, rPJ, g1, g2, g3, g4, g5, g6, g7, g8, Nat.reduceEqDiff, Nat.reduceAdd, false_and, and_false, true_and, and_true, reduceIte, nZ0, nZ1, sσ29_6.1, sσ29_6.2, fun a k => (jσ29 a k).1, fun a k => (jσ29 a k).2, cσ27_7.1, cσ27_7.2, cσ27_9.1, cσ27_9.2, cσ27_10.1, cσ27_10.2, cσ27_13.1, cσ27_13.2, cσ29_7.1, cσ29_7.2, cσ29_8.1, cσ29_8.2, cσ29_9.1, cσ29_9.2, cσ29_10.1, cσ29_10.2, cσ29_13.1, cσ29_13.2] at p13
        try simp only [forall_eq, rII, rIJ, rIP, rJJ, rJI, rJP, rPP, rPI, rPJ, g1, g2, g3, g4, g5, g6, g7, g8, Nat.reduceEqDiff, Nat.reduceAdd, false_and, and_false, true_and, and_true, reduceIte, nZ0, nZ1, sσ29_6.1, sσ29_6.2, fun a k => (jσ29 a k).1, fun a k => (jσ29 a k).2, cσ27_7.1, cσ27_7.2, cσ27_9.1, cσ27_9.2, cσ27_10.1, cσ27_10.2, cσ27_13.1, cσ27_13.2, cσ29_7.1, cσ29_7.2, cσ29_8.1, cσ29_8.2, cσ29_9.1, cσ29_9.2, cσ29_10.1, cσ29_10.2, cσ29_13.1, cσ29_13.2]
        refine ⟨by first | assumption | simp, ?_⟩
        refine hX _ _ ?_ ?_ ?_
        · exact rσ29
        · exact fσ29
        · exact rfl
      · rename_i hc73
        skip
        unfold w_X16_signed_76
        try simp only [forall_eq, rII, rIJ, rIP, rJJ, rJI, rJP, rPP, rPI, rPJ, g1, g2, g3, g4, g5, g6, g7, g8, Nat.reduceEqDiff, Nat.reduceAdd, false_and, and_false, true_and, and_true, reduceIte, nZ0, nZ1, sσ28_6.1, sσ28_6.2, fun a k => (jσ28 a k).1, fun a k => (jσ28 a k).2, cσ27_7.1, cσ27_7.2, cσ27_9.1, cσ27_9.2, cσ27_10.1, cσ27_10.2, cσ27_13.1, cσ27_13.2]
        split
        · rename_i hc77
          skip
          unfold w_X16_signed_94
          try simp only [forall_eq, rII, rIJ, rIP, rJJ, rJI, rJP, rPP, rPI, rPJ, g1, g2, g3, g4, g5, g6, g7, g8, Nat.reduceEqDiff, Nat.reduceAdd, false_and, and_false, true_and, and_true, reduceIte, nZ0, nZ1, sσ28_6.1, sσ28_6.2, fun a k => (jσ28 a k).1, fun a k => (jσ28 a k).2, cσ27_7.1, cσ27_7.2, cσ27_9.1, cσ27_9.2, cσ27_10.1, cσ27_10.2, cσ27_13.1, cσ27_13.2]
          refine s2_X16_take g rσ28 (by exact ps9) (by omega) (by omega) (fun σ31 _ rσ31 fc p14 => ?_)
          have fσ31 : Fr ra jx rm [] [4, 5, 7, 8, 9, 10, 11, 12, 13] σ σ31 := Fr.tr fσ28 (Fr.mor (fc) (by decide) (by decide))
          have cσ31_7 := fc.2.1 7 (by decide)
          have cσ31_9 := fc.2.1 9 (by decide)
          have cσ31_10 := fc.2.1 10 (by decide)
          have cσ31_13 := fc.2.1 13 (by decide)
          have ps9 := p14.1; have cq9 := p14.2
          have sσ31_6 := fσ31.2.1 6 (by decide)
          have jσ31 := fσ31.2.2.1
          try simp only [rII, rIJ, rIP, rJJ, rJI, rJP, rPP, rPI, rPJ, g1, g2, g3, g4, g5, g6, g7, g8, Nat.reduceEqDiff, Nat.reduceAdd, false_and, and_false, true_and, and_true, reduceIte, nZ0, nZ1, sσ31_6.1, sσ31_6.2, fun a k => (jσ31 a k).1, fun a k => (jσ31 a k).2, cσ27_7.1, cσ27_7.2, cσ27_9.1, cσ27_9.2, cσ27_10.1, cσ27_10.2, cσ27_13.1, cσ27_13.2, cσ31_7.1, cσ31_7.2, cσ31_9.1, cσ31_9.2, cσ31_10.1, cσ31_10.2, cσ31_13.1, cσ31_13.2] at p14
          try simp only [forall_eq, rII, rIJ, rIP, rJJ, rJI, rJP, rPP, rPI, rPJ, g1, g2, g3, g4, g5, g6, g7, g8, Nat.reduceEqDiff, Nat.reduceAdd, false_and, and_false, true_and, and_true, reduceIte, nZ0, nZ1, sσ31_6.1, sσ31_6.2, fun a k => (jσ31 a k).1, fun a k => (jσ31 a k).2, cσ27_7.1, cσ27_7.2, cσ27_9.1, cσ27_9.2, cσ27_10.1, cσ27_10.2, cσ27_13.1, cσ27_13.2, cσ31_7.1, cσ31_7.2, cσ31_9.1, cσ31_9.2, cσ31_10.1, cσ31_10.2, cσ31_13.1, cσ31_13.2]
          refine hQ _ _ ?_ ?_ ?_
          · exact rσ31
          · exact fσ31
          · exact ⟨ps9, by omega⟩
        · rename_i hc77
          skip
          unfold w_X16_signed_80
          try simp only [forall_eq, rII, rIJ, rIP, rJJ, rJI, rJP, rPP, rPI, rPJ, g1, g2, g3, g4, g5, g6, g7, g8, Nat.reduceEqDiff, Nat.reduceAdd, false_and, and_false, true_and, and_true, reduceIte, nZ0, nZ1, sσ28_6.1, sσ28_6.2, fun a k => (jσ28 a k).1, fun a k => (jσ28 a k).2, cσ27_7.1, cσ27_7.2, cσ27_9.1, cσ27_9.2, cσ27_10.1, cσ27_10.2, cσ27_13.1, cσ27_13.2]
          split
          · rename_i hc84
            skip
            unfold w_X16_signed_94
            try simp only [forall_eq, rII, rIJ, rIP, rJJ, rJI, rJP, rPP, rPI, rPJ, g1, g2, g3, g4, g5, g6, g7, g8, Nat.reduceEqDiff, Nat.reduceAdd, false_and, and_false, true_and, and_true, reduceIte, nZ0, nZ1, sσ28_6.1, sσ28_6.2, fun a k => (jσ28 a k).1, fun a k => (jσ28 a k).2, cσ27_7.1, cσ27_7.2, cσ27_9.1, cσ27_9.2, cσ27_10.1, cσ27_10.2, cσ27_13.1, cσ27_13.2]
            refine s2_X16_take g rσ28 (by exact ps9) (by omega) (by omega) (fun σ32 _ rσ32 fc p15 => ?_)
            have fσ32 : Fr ra jx rm [] [4, 5, 7, 8, 9, 10, 11, 12, 13] σ σ32 := Fr.tr fσ28 (Fr.mor (fc) (by decide) (by decide))
            have cσ32_7 := fc.2.1 7 (by decide)
            have cσ32_9 := fc.2.1 9 (by decide)
            have cσ32_10 := fc.2.1 10 (by decide)
            have cσ32_13 := fc.2.1 13 (by decide)
            have ps9 := p15.1; have cq9 := p15.2
            have sσ32_6 := fσ32.2.1 6 (by decide)
            have jσ32 := fσ32.2.2.1
            try simp only [rII, rIJ, rIP, rJJ, rJI, rJP, rPP, rPI, rPJ, g1, g2, g3, g4, g5, g6, g7, g8, Nat.reduceEqDiff, Nat.reduceAdd, false_and, and_false, true_and, and_true, reduceIte, nZ0, nZ1, sσ32_6.1, sσ32_6.2, fun a k => (jσ32 a k).1, fun a k => (jσ32 a k).2, cσ27_7.1, cσ27_7.2, cσ27_9.1, cσ27_9.2, cσ27_10.1, cσ27_10.2, cσ27_13.1, cσ27_13.2, cσ32_7.1, cσ32_7.2, cσ32_9.1, cσ32_9.2, cσ32_10.1, cσ32_10.2, cσ32_13.1, cσ32_13.2] at p15
            try simp only [forall_eq, rII, rIJ, rIP, rJJ, rJI, rJP, rPP, rPI, rPJ, g1, g2, g3, g4, g5, g6, g7, g8, Nat.reduceEqDiff, Nat.reduceAdd, false_and, and_false, true_and, and_true, reduceIte, nZ0, nZ1, sσ32_6.1, sσ32_6.2, fun a k => (jσ32 a k).1, fun a k => (jσ32 a k).2, cσ27_7.1, cσ27_7.2, cσ27_9.1, cσ27_9.2, cσ27_10.1, cσ27_10.2, cσ27_13.1, cσ27_13.2, cσ32_7.1, cσ32_7.2, cσ32_9.1, cσ32_9.2, cσ32_10.1, cσ32_10.2, cσ32_13.1, cσ32_13.2]
            refine hQ _ _ ?_ ?_ ?_
            · exact rσ32
            · exact fσ32
            · exact ⟨ps9, by omega⟩
          · rename_i hc84
            skip
            unfold w_X16_signed_87
            try simp only [forall_eq, rII, rIJ, rIP, rJJ, rJI, rJP, rPP, rPI, rPJ, g1, g2, g3, g4, g5, g6, g7, g8, Nat.reduceEqDiff, Nat.reduceAdd, false_and, and_false, true_and, and_true, reduceIte, nZ0, nZ1, sσ28_6.1, sσ28_6.2, fun a k => (jσ28 a k).1, fun a k => (jσ28 a k).2, cσ27_7.1, cσ27_7.2, cσ27_9.1, cσ27_9.2, cσ27_10.1, cσ27_10.2, cσ27_13.1, cσ27_13.2]
            refine s_X16_fail g rσ28 (by (try simp only [rII, rIJ, rIP, rJJ, rJI, rJP, rPP, rPI, rPJ, g1, g2, g3, g4, g5, g6, g7, g8, Nat.reduceEqDiff, Nat.reduceAdd, false_and, and_false, true_and, and_true, reduceIte, nZ0, nZ1, sσ28_6.1, sσ28_6.2, fun a k => (jσ28 a k).1, fun a k => (jσ28 a k).2, cσ27_7.1, cσ27_7.2, cσ27_9.1, cσ27_9.2, cσ27_10.1, cσ27_10.2, cσ27_13.1, cσ27_13.2]) <;> (first | omega | with_reducible assumption | (unfold rng; omega) | (unfold rng; (repeat' split) <;> omega) | decide)) (fun σ33 r34 rσ33 fc p16 => ?_)
            have fσ33 : Fr ra jx rm [] [4, 5, 7, 8, 9, 10, 11, 12, 13] σ σ33 := Fr.tr fσ28 (Fr.mor (fc) (by decide) (by decide))
            have cσ33_7 := fc.2.1 7 (by decide)
            have cσ33_8 := fc.2.1 8 (by decide)
            have cσ33_9 := fc.2.1 9 (by decide)
            have cσ33_10 := fc.2.1 10 (by decide)
            have cσ33_13 := fc.2.1 13 (by decide)
            have sσ33_6 := fσ33.2.1 6 (by decide)
            have jσ33 := fσ33.2.2.1
            try simp only [rII, rIJ, rIP, rJJ, rJI, rJP, rPP, rPI, rPJ, g1, g2, g3, g4, g5, g6, g7, g8, Nat.reduceEqDiff, Nat.reduceAdd, false_and, and_false, true_and, and_true, reduceIte, nZ0, nZ1, sσ33_6.1, sσ33_6.2, fun a k => (jσ33 a k).1, fun a k => (jσ33 a k).2, cσ27_7.1, cσ27_7.2, cσ27_9.1, cσ27_9.2, cσ27_10.1, cσ27_10.2, cσ27_13.1, cσ27_13.2, cσ33_7.1, cσ33_7.2, cσ33_8.1, cσ33_8.2, cσ33_9.1, cσ33_9.2, cσ33_10.1, cσ33_10.2, cσ33_13.1, cσ33_13.2] at p16
            try simp only [forall_eq, rII, rIJ, rIP, rJJ, rJI, rJP, rPP, rPI, rPJ, g1, g2, g3, g4, g5, g6, g7, g8, Nat.reduceEqDiff, Nat.reduceAdd, false_and, and_false, true_and, and_true, reduceIte, nZ0, nZ1, sσ33_6.1, sσ33_6.2, fun a k => (jσ33 a k).1, fun a k => (jσ33 a k).2, cσ27_7.1, cσ27_7.2, cσ27_9.1, cσ27_9.2, cσ27_10.1, cσ27_10.2, cσ27_13.1, cσ27_13.2, cσ33_7.1, cσ33_7.2, cσ33_8.1, cσ33_8.2, cσ33_9.1, cσ33_9.2, cσ33_10.1, cσ33_10.2, cσ33_13.1, cσ33_13.2]
            refine ⟨by first | assumption | simp, ?_⟩
            refine hX _ _ ?_ ?_ ?_
            · exact rσ33
            · exact fσ33
            · exact rfl
    · rename_i hc38
      skip
      unfold w_X16_signed_41
      try simp only [forall_eq, rII, rIJ, rIP, rJJ, rJI, rJP, rPP, rPI, rPJ, g1, g2, g3, g4, g5, g6, g7, g8, Nat.reduceEqDiff, Nat.reduceAdd, false_and, and_false, true_and, and_true, reduceIte, nZ0, nZ1, sσ28_6.1, sσ28_6.2, fun a k => (jσ28 a k).1, fun a k => (jσ28 a k).2, cσ27_7.1, cσ27_7.2, cσ27_9.1, cσ27_9.2, cσ27_10.1, cσ27_10.2, cσ27_13.1, cσ27_13.2]
      refine s_X16_misplaced g rσ28 (fun σ35 r36 rσ35 fc p17 => ?_)
      have fσ35 : Fr ra jx rm [] [4, 5, 7, 8, 9, 10, 11, 12, 13] σ σ35 := Fr.tr fσ28 (Fr.mor (fc) (by decide) (by decide))
      have cσ35_7 := fc.2.1 7 (by decide)
      have cσ35_8 := fc.2.1 8 (by decide)
      have cσ35_9 := fc.2.1 9 (by decide)
      have cσ35_10 := fc.2.1 10 (by decide)
      have cσ35_13 := fc.2.1 13 (by decide)
      have sσ35_6 := fσ35.2.1 6 (by decide)
      have jσ35 := fσ35.2.2.1
      try simp only [rII, rIJ, rIP, rJJ, rJI, rJP, rPP, rPI, rPJ, g1, g2, g3, g4, g5, g6, g7, g8, Nat.reduceEqDiff, Nat.reduceAdd, false_and, and_false, true_and, and_true, reduceIte, nZ0, nZ1, sσ35_6.1, sσ35_6.2, fun a k => (jσ35 a k).1, fun a k => (jσ35 a k).2, cσ27_7.1, cσ27_7.2, cσ27_9.1, cσ27_9.2, cσ27_10.1, cσ27_10.2, cσ27_13.1, cσ27_13.2, cσ35_7.1, cσ35_7.2, cσ35_8.1, cσ35_8.2, cσ35_9.1, cσ35_9.2, cσ35_10.1, cσ35_10.2, cσ35_13.1, cσ35_13.2] at p17
      try simp only [forall_eq, rII, rIJ, rIP, rJJ, rJI, rJP, rPP, rPI, rPJ, g1, g2, g3, g4, g5, g6, g7, g8, Nat.reduceEqDiff, Nat.reduceAdd, false_and, and_false, true_and, and_true, reduceIte, nZ0, nZ1, sσ35_6.1, sσ35_6.2, fun a k => (jσ35 a k).1, fun a k => (jσ35 a k).2, cσ27_7.1, cσ27_7.2, cσ27_9.1, cσ27_9.2, cσ27_10.1, cσ27_10.2, cσ27_13.1, cσ27_13.2, cσ35_7.1, cσ35_7.2, cσ35_8.1, cσ35_8.2, cσ35_9.1, cσ35_9.2, cσ35_10.1, cσ35_10.2, cσ35_13.1, cσ35_13.2]
      refine ⟨by first | assumption | simp, ?_⟩
      refine hX _ _ ?_ ?_ ?_
      · exact rσ35
      · exact fσ35
      · exact rfl
set_option maxHeartbeats 4000000 in
theorem s2_X16_newColumn {ra : Nat → Nat} {jx : Nat → Nat → Nat} {rm : Nat} {da : Nat} (g : Geo ra jx rm) {σ : Sg} {v1 : Int} {v2 : Int} (rσ : Rg ra jx rm σ) (hps : PsI rm σ) (hd : gP σ rm 18 = some da) (hda : da = ra 15 ∨ da = ra 16) (h1 : 0 ≤ v1 ∧ v1 < 16) (h2 : 0 ≤ v2 ∧ v2 ≤ 8) (hc : gI σ (jx da 6) v1.toNat ≤ v2) {Q : Sg → Unit → Prop} {X : Sg → String → Prop} (hQ : ∀ (σ' : Sg) (r : Unit), Rg ra jx rm σ' → FdO ra jx rm da v1 [] [4, 5, 7, 8, 9, 10, 11, 12, 13] [6, 7] σ σ' → (PsI rm σ' ∧ cn rm σ + 1 ≤ cn rm σ' ∧ gI σ' (jx da 6) v1.toNat = gI σ (jx da 6) v1.toNat + 1 ∧ gI σ (jx da 6) v1.toNat < v2 ∧ (∀ i : Nat, i ≠ v1.toNat → gI σ' (jx da 6) i = gI σ (jx da 6) i)) → Q σ' r) (hX : ∀ (σ' : Sg) (E : String), Rg ra jx rm σ' → FdO ra jx rm da v1 [] [4, 5, 7, 8, 9, 10, 11, 12, 13] [6, 7] σ σ' → (E = "StreamHouseModel$Fault") → X σ' E) : wp_X16_newColumn ra jx rm v1 v2 σ Q X := by
  obtain ⟨g1, g2, g3, g4, g5, g6, g7, g8⟩ := id g
  have fσ : FdO ra jx rm da v1 [] [4, 5, 7, 8, 9, 10, 11, 12, 13] [6, 7] σ σ := FdO.rf
  have ps9 := hps
  unfold wp_X16_newColumn
  unfold w_X16_newColumn_0
  try simp only [forall_eq, rII, rIJ, rIP, rJJ, rJI, rJP, rPP, rPI, rPJ, g1, g2, g3, g4, g5, g6, g7, g8, Nat.reduceEqDiff, Nat.reduceAdd, false_and, and_false, true_and, and_true, reduceIte, nZ0, nZ1]
  refine s2_X16_seeName g rσ (by exact ps9) (fun σ27 r28 rσ27 fc p1 => ?_) (fun σx E rx fx px => hX _ _ rx (FdO.tr fσ (FdO.mor (Fr.d fx hda (by decide)) (by decide) (by decide) (by decide))) px)
  have fσ27 : FdO ra jx rm da v1 [] [4, 5, 7, 8, 9, 10, 11, 12, 13] [6, 7] σ σ27 := FdO.tr fσ (FdO.mor (Fr.d fc hda (by decide)) (by decide) (by decide) (by decide))
  have gσ27_6 := fun a => fc.2.2.1 a 6
  have ps9 := p1.1; have cq9 := p1.2
  have sσ27_6 := fσ27.2.1 6 (by decide)
  have pσ27 := fσ27.2.2.2.1 (by decide)
  have obσ27 := FdO.ob fσ27 hda (by decide)
  try simp only [rII, rIJ, rIP, rJJ, rJI, rJP, rPP, rPI, rPJ, g1, g2, g3, g4, g5, g6, g7, g8, Nat.reduceEqDiff, Nat.reduceAdd, false_and, and_false, true_and, and_true, reduceIte, nZ0, nZ1, sσ27_6.1, sσ27_6.2, pσ27, obσ27, fun a => (gσ27_6 a).1, fun a => (gσ27_6 a).2] at p1
  try simp only [forall_eq, rII, rIJ, rIP, rJJ, rJI, rJP, rPP, rPI, rPJ, g1, g2, g3, g4, g5, g6, g7, g8, Nat.reduceEqDiff, Nat.reduceAdd, false_and, and_false, true_and, and_true, reduceIte, nZ0, nZ1, sσ27_6.1, sσ27_6.2, pσ27, obσ27, fun a => (gσ27_6 a).1, fun a => (gσ27_6 a).2]
  refine ⟨da, by exact hd, hda, ?_⟩
  refine s2_X15_column g rσ27 hda (by (try simp only [rII, rIJ, rIP, rJJ, rJI, rJP, rPP, rPI, rPJ, g1, g2, g3, g4, g5, g6, g7, g8, Nat.reduceEqDiff, Nat.reduceAdd, false_and, and_false, true_and, and_true, reduceIte, nZ0, nZ1, sσ27_6.1, sσ27_6.2, pσ27, obσ27, fun a => (gσ27_6 a).1, fun a => (gσ27_6 a).2]) <;> (first | omega | with_reducible assumption | (unfold rng; omega) | (unfold rng; (repeat' split) <;> omega) | decide)) (fun r31 p2 => ?_)
  try simp only [rII, rIJ, rIP, rJJ, rJI, rJP, rPP, rPI, rPJ, g1, g2, g3, g4, g5, g6, g7, g8, Nat.reduceEqDiff, Nat.reduceAdd, false_and, and_false, true_and, and_true, reduceIte, nZ0, nZ1, sσ27_6.1, sσ27_6.2, pσ27, obσ27, fun a => (gσ27_6 a).1, fun a => (gσ27_6 a).2] at p2
  try simp only [forall_eq, rII, rIJ, rIP, rJJ, rJI, rJP, rPP, rPI, rPJ, g1, g2, g3, g4, g5, g6, g7, g8, Nat.reduceEqDiff, Nat.reduceAdd, false_and, and_false, true_and, and_true, reduceIte, nZ0, nZ1, sσ27_6.1, sσ27_6.2, pσ27, obσ27, fun a => (gσ27_6 a).1, fun a => (gσ27_6 a).2]
  split
  · rename_i hc15
    skip
    unfold w_X16_newColumn_25
    try simp only [forall_eq, rII, rIJ, rIP, rJJ, rJI, rJP, rPP, rPI, rPJ, g1, g2, g3, g4, g5, g6, g7, g8, Nat.reduceEqDiff, Nat.reduceAdd, false_and, and_false, true_and, and_true, reduceIte, nZ0, nZ1, sσ27_6.1, sσ27_6.2, pσ27, obσ27, fun a => (gσ27_6 a).1, fun a => (gσ27_6 a).2]
    refine ⟨da, by exact hd, hda, ?_⟩
    refine ⟨by (first | omega | with_reducible assumption | (unfold rng; omega) | (unfold rng; (repeat' split) <;> omega) | decide), ?_⟩
    have q3 := rσ.2.2.1 da 6 (v1.toNat); simp only [rgJ] at q3
    split
    · rename_i hc35
      skip
      unfold w_X16_newColumn_45
      try simp only [forall_eq, rII, rIJ, rIP, rJJ, rJI, rJP, rPP, rPI, rPJ, g1, g2, g3, g4, g5, g6, g7, g8, Nat.reduceEqDiff, Nat.reduceAdd, false_and, and_false, true_and, and_true, reduceIte, nZ0, nZ1, sσ27_6.1, sσ27_6.2, pσ27, obσ27, fun a => (gσ27_6 a).1, fun a => (gσ27_6 a).2]
      refine ⟨da, by exact hd, hda, ?_⟩
      refine s2_X15_add g rσ27 hda (by (try simp only [rII, rIJ, rIP, rJJ, rJI, rJP, rPP, rPI, rPJ, g1, g2, g3, g4, g5, g6, g7, g8, Nat.reduceEqDiff, Nat.reduceAdd, false_and, and_false, true_and, and_true, reduceIte, nZ0, nZ1, sσ27_6.1, sσ27_6.2, pσ27, obσ27, fun a => (gσ27_6 a).1, fun a => (gσ27_6 a).2]) <;> (first | omega | with_reducible assumption | (unfold rng; omega) | (unfold rng; (repeat' split) <;> omega) | decide)) (by (try simp only [rII, rIJ, rIP, rJJ, rJI, rJP, rPP, rPI, rPJ, g1, g2, g3, g4, g5, g6, g7, g8, Nat.reduceEqDiff, Nat.reduceAdd, false_and, and_false, true_and, and_true, reduceIte, nZ0, nZ1, sσ27_6.1, sσ27_6.2, pσ27, obσ27, fun a => (gσ27_6 a).1, fun a => (gσ27_6 a).2]) <;> (first | omega | with_reducible assumption | (unfold rng; omega) | (unfold rng; (repeat' split) <;> omega) | decide)) (fun σ34 _ rσ34 fc p4 => ?_)
      have fσ34 : FdO ra jx rm da v1 [] [4, 5, 7, 8, 9, 10, 11, 12, 13] [6, 7] σ σ34 := FdO.tr fσ27 (FdO.mor (fc) (by decide) (by decide) (by decide))
      have cσ34_7 := fc.2.1 7 (by decide)
      have cσ34_8 := fc.2.1 8 (by decide)
      have cσ34_9 := fc.2.1 9 (by decide)
      have cσ34_10 := fc.2.1 10 (by decide)
      have cσ34_13 := fc.2.1 13 (by decide)
      have pf9 := PsI.frj ps9 (FdO.fj fc) (by decide)
      have ps9 := pf9.1; have cq9 := pf9.2
      have pa9 := p4
      (try simp only [rII, rIJ, rIP, rJJ, rJI, rJP, rPP, rPI, rPJ, g1, g2, g3, g4, g5, g6, g7, g8, Nat.reduceEqDiff, Nat.reduceAdd, false_and, and_false, true_and, and_true, reduceIte, nZ0, nZ1, sσ27_6.1, sσ27_6.2, pσ27, obσ27, fun a => (gσ27_6 a).1, fun a => (gσ27_6 a).2] at pa9)
      have sσ34_6 := fσ34.2.1 6 (by decide)
      have pσ34 := fσ34.2.2.2.1 (by decide)
      have obσ34 := FdO.ob fσ34 hda (by decide)
      try simp only [rII, rIJ, rIP, rJJ, rJI, rJP, rPP, rPI, rPJ, g1, g2, g3, g4, g5, g6, g7, g8, Nat.reduceEqDiff, Nat.reduceAdd, false_and, and_false, true_and, and_true, reduceIte, nZ0, nZ1, sσ34_6.1, sσ34_6.2, pσ34, obσ34, fun a => (gσ27_6 a).1, fun a => (gσ27_6 a).2, cσ34_7.1, cσ34_7.2, cσ34_8.1, cσ34_8.2, cσ34_9.1, cσ34_9.2, cσ34_10.1, cσ34_10.2, cσ34_13.1, cσ34_13.2] at p4
      try simp only [forall_eq, rII, rIJ, rIP, rJJ, rJI, rJP, rPP, rPI, rPJ, g1, g2, g3, g4, g5, g6, g7, g8, Nat.reduceEqDiff, Nat.reduceAdd, false_and, and_false, true_and, and_true, reduceIte, nZ0, nZ1, sσ34_6.1, sσ34_6.2, pσ34, obσ34, fun a => (gσ27_6 a).1, fun a => (gσ27_6 a).2, cσ34_7.1, cσ34_7.2, cσ34_8.1, cσ34_8.2, cσ34_9.1, cσ34_9.2, cσ34_10.1, cσ34_10.2, cσ34_13.1, cσ34_13.2]
      refine s2_X16_take g rσ34 (by exact ps9) (by omega) (by omega) (fun σ35 _ rσ35 fc p5 => ?_)
      have fσ35 : FdO ra jx rm da v1 [] [4, 5, 7, 8, 9, 10, 11, 12, 13] [6, 7] σ σ35 := FdO.tr fσ34 (FdO.mor (Fr.d fc hda (by decide)) (by decide) (by decide) (by decide))
      have cσ35_7 := fc.2.1 7 (by decide)
      have cσ35_9 := fc.2.1 9 (by decide)
      have cσ35_10 := fc.2.1 10 (by decide)
      have cσ35_13 := fc.2.1 13 (by decide)
      have gσ35_6 := fun a => fc.2.2.1 a 6
      have ps9 := p5.1; have cq9 := p5.2
      have sσ35_6 := fσ35.2.1 6 (by decide)
      have pσ35 := fσ35.2.2.2.1 (by decide)
      have obσ35 := FdO.ob fσ35 hda (by decide)
      try simp only [rII, rIJ, rIP, rJJ, rJI, rJP, rPP, rPI, rPJ, g1, g2, g3, g4, g5, g6, g7, g8, Nat.reduceEqDiff, Nat.reduceAdd, false_and, and_false, true_and, and_true, reduceIte, nZ0, nZ1, sσ35_6.1, sσ35_6.2, pσ35, obσ35, fun a => (gσ27_6 a).1, fun a => (gσ27_6 a).2, cσ34_7.1, cσ34_7.2, cσ34_8.1, cσ34_8.2, cσ34_9.1, cσ34_9.2, cσ34_10.1, cσ34_10.2, cσ34_13.1, cσ34_13.2, cσ35_7.1, cσ35_7.2, cσ35_9.1, cσ35_9.2, cσ35_10.1, cσ35_10.2, cσ35_13.1, cσ35_13.2, fun a => (gσ35_6 a).1, fun a => (gσ35_6 a).2] at p5
      try simp only [forall_eq, rII, rIJ, rIP, rJJ, rJI, rJP, rPP, rPI, rPJ, g1, g2, g3, g4, g5, g6, g7, g8, Nat.reduceEqDiff, Nat.reduceAdd, false_and, and_false, true_and, and_true, reduceIte, nZ0, nZ1, sσ35_6.1, sσ35_6.2, pσ35, obσ35, fun a => (gσ27_6 a).1, fun a => (gσ27_6 a).2, cσ34_7.1, cσ34_7.2, cσ34_8.1, cσ34_8.2, cσ34_9.1, cσ34_9.2, cσ34_10.1, cσ34_10.2, cσ34_13.1, cσ34_13.2, cσ35_7.1, cσ35_7.2, cσ35_9.1, cσ35_9.2, cσ35_10.1, cσ35_10.2, cσ35_13.1, cσ35_13.2, fun a => (gσ35_6 a).1, fun a => (gσ35_6 a).2]
      refine hQ _ _ ?_ ?_ ?_
      · exact rσ35
      · exact fσ35
      · exact ⟨ps9, by omega, by (try simp only [rII, rIJ, rIP, rJJ, rJI, rJP, rPP, rPI, rPJ, g1, g2, g3, g4, g5, g6, g7, g8, Nat.reduceEqDiff, Nat.reduceAdd, false_and, and_false, true_and, and_true, reduceIte, nZ0, nZ1, sσ35_6.1, sσ35_6.2, pσ35, obσ35, fun a => (gσ27_6 a).1, fun a => (gσ27_6 a).2, cσ34_7.1, cσ34_7.2, cσ34_8.1, cσ34_8.2, cσ34_9.1, cσ34_9.2, cσ34_10.1, cσ34_10.2, cσ34_13.1, cσ34_13.2, cσ35_7.1, cσ35_7.2, cσ35_9.1, cσ35_9.2, cσ35_10.1, cσ35_10.2, cσ35_13.1, cσ35_13.2, fun a => (gσ35_6 a).1, fun a => (gσ35_6 a).2]) <;> omega, by omega, fun i hi => by (try simp only [rII, rIJ, rIP, rJJ, rJI, rJP, rPP, rPI, rPJ, g1, g2, g3, g4, g5, g6, g7, g8, Nat.reduceEqDiff, Nat.reduceAdd, false_and, and_false, true_and, and_true, reduceIte, nZ0, nZ1, sσ35_6.1, sσ35_6.2, pσ35, obσ35, fun a => (gσ27_6 a).1, fun a => (gσ27_6 a).2, cσ34_7.1, cσ34_7.2, cσ34_8.1, cσ34_8.2, cσ34_9.1, cσ34_9.2, cσ34_10.1, cσ34_10.2, cσ34_13.1, cσ34_13.2, cσ35_7.1, cσ35_7.2, cσ35_9.1, cσ35_9.2, cσ35_10.1, cσ35_10.2, cσ35_13.1, cσ35_13.2, fun a => (gσ35_6 a).1, fun a => (gσ35_6 a).2]) <;> exact pa9.2 i hi⟩
    · rename_i hc35
      skip
      unfold w_X16_newColumn_38
      try simp only [forall_eq, rII, rIJ, rIP, rJJ, rJI, rJP, rPP, rPI, rPJ, g1, g2, g3, g4, g5, g6, g7, g8, Nat.reduceEqDiff, Nat.reduceAdd, false_and, and_false, true_and, and_true, reduceIte, nZ0, nZ1, sσ27_6.1, sσ27_6.2, pσ27, obσ27, fun a => (gσ27_6 a).1, fun a => (gσ27_6 a).2]
      refine s_X16_fail g rσ27 (by (try simp only [rII, rIJ, rIP, rJJ, rJI, rJP, rPP, rPI, rPJ, g1, g2, g3, g4, g5, g6, g7, g8, Nat.reduceEqDiff, Nat.reduceAdd, false_and, and_false, true_and, and_true, reduceIte, nZ0, nZ1, sσ27_6.1, sσ27_6.2, pσ27, obσ27, fun a => (gσ27_6 a).1, fun a => (gσ27_6 a).2]) <;> (first | omega | with_reducible assumption | (unfold rng; omega) | (unfold rng; (repeat' split) <;> omega) | decide)) (fun σ36 r37 rσ36 fc p6 => ?_)
      have fσ36 : FdO ra jx rm da v1 [] [4, 5, 7, 8, 9, 10, 11, 12, 13] [6, 7] σ σ36 := FdO.tr fσ27 (FdO.mor (Fr.d fc hda (by decide)) (by decide) (by decide) (by decide))
      have cσ36_7 := fc.2.1 7 (by decide)
      have cσ36_8 := fc.2.1 8 (by decide)
      have cσ36_9 := fc.2.1 9 (by decide)
      have cσ36_10 := fc.2.1 10 (by decide)
      have cσ36_13 := fc.2.1 13 (by decide)
      have gσ36_6 := fun a => fc.2.2.1 a 6
      have sσ36_6 := fσ36.2.1 6 (by decide)
      have pσ36 := fσ36.2.2.2.1 (by decide)
      have obσ36 := FdO.ob fσ36 hda (by decide)
      try simp only [rII, rIJ, rIP, rJJ, rJI, rJP, rPP, rPI, rPJ, g1, g2, g3, g4, g5, g6, g7, g8, Nat.reduceEqDiff, Nat.reduceAdd, false_and, and_false, true_and, and_true, reduceIte, nZ0, nZ1, sσ36_6.1, sσ36_6.2, pσ36, obσ36, fun a => (gσ27_6 a).1, fun a => (gσ27_6 a).2, cσ36_7.1, cσ36_7.2, cσ36_8.1, cσ36_8.2, cσ36_9.1, cσ36_9.2, cσ36_10.1, cσ36_10.2, cσ36_13.1, cσ36_13.2, fun a => (gσ36_6 a).1, fun a => (gσ36_6 a).2] at p6
      try simp only [forall_eq, rII, rIJ, rIP, rJJ, rJI, rJP, rPP, rPI, rPJ, g1, g2, g3, g4, g5, g6, g7, g8, Nat.reduceEqDiff, Nat.reduceAdd, false_and, and_false, true_and, and_true, reduceIte, nZ0, nZ1, sσ36_6.1, sσ36_6.2, pσ36, obσ36, fun a => (gσ27_6 a).1, fun a => (gσ27_6 a).2, cσ36_7.1, cσ36_7.2, cσ36_8.1, cσ36_8.2, cσ36_9.1, cσ36_9.2, cσ36_10.1, cσ36_10.2, cσ36_13.1, cσ36_13.2, fun a => (gσ36_6 a).1, fun a => (gσ36_6 a).2]
      refine ⟨by first | assumption | simp, ?_⟩
      refine hX _ _ ?_ ?_ ?_
      · exact rσ36
      · exact fσ36
      · exact rfl
  · rename_i hc15
    skip
    unfold w_X16_newColumn_18
    try simp only [forall_eq, rII, rIJ, rIP, rJJ, rJI, rJP, rPP, rPI, rPJ, g1, g2, g3, g4, g5, g6, g7, g8, Nat.reduceEqDiff, Nat.reduceAdd, false_and, and_false, true_and, and_true, reduceIte, nZ0, nZ1, sσ27_6.1, sσ27_6.2, pσ27, obσ27, fun a => (gσ27_6 a).1, fun a => (gσ27_6 a).2]
    refine s_X16_fail g rσ27 (by (try simp only [rII, rIJ, rIP, rJJ, rJI, rJP, rPP, rPI, rPJ, g1, g2, g3, g4, g5, g6, g7, g8, Nat.reduceEqDiff, Nat.reduceAdd, false_and, and_false, true_and, and_true, reduceIte, nZ0, nZ1, sσ27_6.1, sσ27_6.2, pσ27, obσ27, fun a => (gσ27_6 a).1, fun a => (gσ27_6 a).2]) <;> (first | omega | with_reducible assumption | (unfold rng; omega) | (unfold rng; (repeat' split) <;> omega) | decide)) (fun σ38 r39 rσ38 fc p7 => ?_)
    have fσ38 : FdO ra jx rm da v1 [] [4, 5, 7, 8, 9, 10, 11, 12, 13] [6, 7] σ σ38 := FdO.tr fσ27 (FdO.mor (Fr.d fc hda (by decide)) (by decide) (by decide) (by decide))
    have cσ38_7 := fc.2.1 7 (by decide)
    have cσ38_8 := fc.2.1 8 (by decide)
    have cσ38_9 := fc.2.1 9 (by decide)
    have cσ38_10 := fc.2.1 10 (by decide)
    have cσ38_13 := fc.2.1 13 (by decide)
    have gσ38_6 := fun a => fc.2.2.1 a 6
    have sσ38_6 := fσ38.2.1 6 (by decide)
    have pσ38 := fσ38.2.2.2.1 (by decide)
    have obσ38 := FdO.ob fσ38 hda (by decide)
    try simp only [rII, rIJ, rIP, rJJ, rJI, rJP, rPP, rPI, rPJ, g1, g2, g3, g4, g5, g6, g7, g8, Nat.reduceEqDiff, Nat.reduceAdd, false_and, and_false, true_and, and_true, reduceIte, nZ0, nZ1, sσ38_6.1, sσ38_6.2, pσ38, obσ38, fun a => (gσ27_6 a).1, fun a => (gσ27_6 a).2, cσ38_7.1, cσ38_7.2, cσ38_8.1, cσ38_8.2, cσ38_9.1, cσ38_9.2, cσ38_10.1, cσ38_10.2, cσ38_13.1, cσ38_13.2, fun a => (gσ38_6 a).1, fun a => (gσ38_6 a).2] at p7
    try simp only [forall_eq, rII, rIJ, rIP, rJJ, rJI, rJP, rPP, rPI, rPJ, g1, g2, g3, g4, g5, g6, g7, g8, Nat.reduceEqDiff, Nat.reduceAdd, false_and, and_false, true_and, and_true, reduceIte, nZ0, nZ1, sσ38_6.1, sσ38_6.2, pσ38, obσ38, fun a => (gσ27_6 a).1, fun a => (gσ27_6 a).2, cσ38_7.1, cσ38_7.2, cσ38_8.1, cσ38_8.2, cσ38_9.1, cσ38_9.2, cσ38_10.1, cσ38_10.2, cσ38_13.1, cσ38_13.2, fun a => (gσ38_6 a).1, fun a => (gσ38_6 a).2]
    refine ⟨by first | assumption | simp, ?_⟩
    refine hX _ _ ?_ ?_ ?_
    · exact rσ38
    · exact fσ38
    · exact rfl


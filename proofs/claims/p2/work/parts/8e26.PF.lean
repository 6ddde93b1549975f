set_option maxHeartbeats 16000000 in
theorem s_X16_takeRow {ra : Nat → Nat} {jx : Nat → Nat → Nat} {rm : Nat} {ja : Nat} (g : Geo ra jx rm) {σ : Sg} {v1 : Int} {v2 : Int} {v3 : Int64} {v5 : Int} (rσ : Rg ra jx rm σ) (hj : gP σ rm 17 = some ja) (hja : ja = ra 15 ∨ ja = ra 16) (hre : RecE ra jx rm ja σ) (hth : ThE ra rm σ) (hhe : HeE ra rm σ) (h1 : 0 ≤ v1 ∧ v1 < 64) (h2 : 0 ≤ v2 ∧ v2 ≤ 1) (h3 : v3.toInt ≤ 4611686018427387904) (h5 : 0 ≤ v5 ∧ v5 < 30000) (hp : 1 ≤ gI σ rm 33) (hjo : JobOK jx ja σ) (hto : (gI σ (ra 38) v1.toNat) < gI σ ja 0) (hin : v2 = 1 → 0 ≤ gI σ (jx ja 5) (gI σ (ra 38) v1.toNat).toNat) (hns : gI σ (jx ja 2) (gI σ (ra 38) v1.toNat).toNat ≠ 0) {Q : Sg → Unit → Prop} {X : Sg → String → Prop} (hQ : ∀ (σ' : Sg) (r : Unit), Rg ra jx rm σ' → Fr ra jx rm [20, 26, 42, 46, 47, 48, 49, 60, 61, 62, 63, 64, 65, 68, 69, 70, 71, 72, 73, 74, 75, 76, 77, 78, 82, 83, 84, 85, 86, 87, 88, 89] [21, 27, 66, 67, 79, 80, 90, 91] σ σ' → (ThE ra rm σ' ∧ RecE ra jx rm ja σ' ∧ HeE ra rm σ') → Q σ' r) (hX : ∀ (σ' : Sg) (E : String), Rg ra jx rm σ' → Fr ra jx rm [20, 26, 42, 46, 47, 48, 49, 60, 61, 62, 63, 64, 65, 68, 69, 70, 71, 72, 73, 74, 75, 76, 77, 78, 82, 83, 84, 85, 86, 87, 88, 89] [21, 27, 66, 67, 79, 80, 90, 91] σ σ' → (E = "StreamHouseModel$Broken" ∧ ThE ra rm σ' ∧ RecE ra jx rm ja σ' ∧ HeE ra rm σ') → X σ' E) : wp_X16_takeRow ra jx rm v1 v2 v3 v5 σ Q X := by
  obtain ⟨g1, g2, g3, g4, g5, g6, g7, g8⟩ := id g
  have fσ : Fr ra jx rm [20, 26, 42, 46, 47, 48, 49, 60, 61, 62, 63, 64, 65, 68, 69, 70, 71, 72, 73, 74, 75, 76, 77, 78, 82, 83, 84, 85, 86, 87, 88, 89] [21, 27, 66, 67, 79, 80, 90, 91] σ σ := Fr.rf
  have t9 := hth; have r9 := hre; have e9 := hhe
  have hoo := rσ.1 38 v1.toNat; simp only [rgT] at hoo
  obtain ⟨o1, o2, o3, o4, o5, o6, o7, o8, o9⟩ := hjo.2.2 (gI σ (ra 38) v1.toNat) (by omega) hto
  obtain ⟨own0, ps0, hr0, hm0⟩ := id hre
  have hfirst := o1 hns
  unfold wp_X16_takeRow
  unfold w_X16_takeRow_0
  try simp only [forall_eq, rII, rIJ, rIP, rJJ, rJI, rJP, rPP, rPI, rPJ, g1, g2, g3, g4, g5, g6, g7, g8, Nat.reduceEqDiff, Nat.reduceAdd, false_and, and_false, true_and, and_true, reduceIte, nZ0, nZ1]
  refine ⟨by (first | omega | with_reducible assumption | (unfold rng; omega) | (unfold rng; (repeat' split) <;> omega) | grind), ?_⟩
  split
  · rename_i hc9
    skip
    unfold w_X16_takeRow_25
    try simp only [forall_eq, rII, rIJ, rIP, rJJ, rJI, rJP, rPP, rPI, rPJ, g1, g2, g3, g4, g5, g6, g7, g8, Nat.reduceEqDiff, Nat.reduceAdd, false_and, and_false, true_and, and_true, reduceIte, nZ0, nZ1]
    refine ⟨ja, by exact hj, hja, ?_⟩
    have q1 := rσ.1 38 (v1.toNat); simp only [rgT] at q1
    refine ⟨by (first | omega | with_reducible assumption | (unfold rng; omega) | (unfold rng; (repeat' split) <;> omega) | grind), ?_⟩
    unfold w_X16_takeRow_35
    try simp only [forall_eq, rII, rIJ, rIP, rJJ, rJI, rJP, rPP, rPI, rPJ, g1, g2, g3, g4, g5, g6, g7, g8, Nat.reduceEqDiff, Nat.reduceAdd, false_and, and_false, true_and, and_true, reduceIte, nZ0, nZ1]
    refine ⟨ja, by exact hj, hja, ?_⟩
    refine ⟨by (first | omega | with_reducible assumption | (unfold rng; omega) | (unfold rng; (repeat' split) <;> omega) | grind), ?_⟩
    have q2 := rσ.2.2.1 ja 2 ((gI σ (ra 38) v1.toNat).toNat); simp only [rgJ] at q2
    by_cases hc47_0 : (gI σ (jx ja 2) (gI σ (ra 38) v1.toNat).toNat) = 1
    · rw [if_pos hc47_0]
      unfold w_X16_takeRow_104
      try simp only [forall_eq, rII, rIJ, rIP, rJJ, rJI, rJP, rPP, rPI, rPJ, g1, g2, g3, g4, g5, g6, g7, g8, Nat.reduceEqDiff, Nat.reduceAdd, false_and, and_false, true_and, and_true, reduceIte, nZ0, nZ1]
      refine ⟨ja, by exact hj, hja, ?_⟩
      refine ⟨by (first | omega | with_reducible assumption | (unfold rng; omega) | (unfold rng; (repeat' split) <;> omega) | grind), ?_⟩
      refine ⟨by (first | omega | with_reducible assumption | (unfold rng; omega) | (unfold rng; (repeat' split) <;> omega) | grind), ?_⟩
      have q3 := rσ.2.2.1 ja 13 ((8 * (gI σ (ra 38) v1.toNat)).toNat); simp only [rgJ] at q3
      refine s_X16_worth (b5 := (ra 81)) (n5 := 8) g rσ rfl (Or.inl ⟨81, rfl, by decide⟩) (by first | exact hj | (rw [fσ.2.2.2]; exact hj)) hja (by (try simp only [rII, rIJ, rIP, rJJ, rJI, rJP, rPP, rPI, rPJ, g1, g2, g3, g4, g5, g6, g7, g8, Nat.reduceEqDiff, Nat.reduceAdd, false_and, and_false, true_and, and_true, reduceIte, nZ0, nZ1]) <;> first | exact PO.fr ((o4 (by omega)).2 v10 (by omega) (by omega)) hja fσ (by decide) | (have w8 := (o4 (by omega)).2 0 (by omega) (by omega); rw [show 8 * (gI σ (ra 38) v1.toNat) + 0 = 8 * (gI σ (ra 38) v1.toNat) by omega] at w8; exact PO.fr w8 hja fσ (by decide))) (by (try simp only [rII, rIJ, rIP, rJJ, rJI, rJP, rPP, rPI, rPJ, g1, g2, g3, g4, g5, g6, g7, g8, Nat.reduceEqDiff, Nat.reduceAdd, false_and, and_false, true_and, and_true, reduceIte, nZ0, nZ1]) <;> (first | omega | with_reducible assumption | (unfold rng; omega) | (unfold rng; (repeat' split) <;> omega) | grind)) (by (try simp only [rII, rIJ, rIP, rJJ, rJI, rJP, rPP, rPI, rPJ, g1, g2, g3, g4, g5, g6, g7, g8, Nat.reduceEqDiff, Nat.reduceAdd, false_and, and_false, true_and, and_true, reduceIte, nZ0, nZ1]) <;> (first | omega | with_reducible assumption | (unfold rng; omega) | (unfold rng; (repeat' split) <;> omega) | grind)) (fun σ66 r67 rσ66 fc p4 => ?_)
      have fσ66 : Fr ra jx rm [20, 26, 42, 46, 47, 48, 49, 60, 61, 62, 63, 64, 65, 68, 69, 70, 71, 72, 73, 74, 75, 76, 77, 78, 82, 83, 84, 85, 86, 87, 88, 89] [21, 27, 66, 67, 79, 80, 90, 91] σ σ66 := Fr.tr fσ (Fr.mor (fc) (by decide) (by decide))
      have t9 := ThE.fr t9 fc (by decide) (by decide)
      have r9 := RecE.fr r9 fc (by decide) (by decide)
      have e9 := HeE.fr e9 fc (by decide) (by decide)
      have eσ66_38 := fσ66.1 38 (by decide)
      have eσ66_81 := fσ66.1 81 (by decide)
      have jσ66 := fσ66.2.2.1
      have pσ66 := fσ66.2.2.2
      try simp only [forall_eq, rII, rIJ, rIP, rJJ, rJI, rJP, rPP, rPI, rPJ, g1, g2, g3, g4, g5, g6, g7, g8, Nat.reduceEqDiff, Nat.reduceAdd, false_and, and_false, true_and, and_true, reduceIte, nZ0, nZ1, eσ66_38.1, eσ66_38.2, eσ66_81.1, eσ66_81.2, fun a k => (jσ66 a k).1, fun a k => (jσ66 a k).2, pσ66]
      have q5 := rσ66.2.1 21; simp only [rgS] at q5
      split
      · rename_i hc137
        skip
        unfold w_X16_takeRow_153
        try simp only [forall_eq, rII, rIJ, rIP, rJJ, rJI, rJP, rPP, rPI, rPJ, g1, g2, g3, g4, g5, g6, g7, g8, Nat.reduceEqDiff, Nat.reduceAdd, false_and, and_false, true_and, and_true, reduceIte, nZ0, nZ1, eσ66_38.1, eσ66_38.2, eσ66_81.1, eσ66_81.2, fun a k => (jσ66 a k).1, fun a k => (jσ66 a k).2, pσ66]
        split
        · rename_i hc157
          skip
          unfold w_X16_takeRow_452
          try simp only [forall_eq, rII, rIJ, rIP, rJJ, rJI, rJP, rPP, rPI, rPJ, g1, g2, g3, g4, g5, g6, g7, g8, Nat.reduceEqDiff, Nat.reduceAdd, false_and, and_false, true_and, and_true, reduceIte, nZ0, nZ1, eσ66_38.1, eσ66_38.2, eσ66_81.1, eσ66_81.2, fun a k => (jσ66 a k).1, fun a k => (jσ66 a k).2, pσ66]
          refine hQ _ _ ?_ ?_ ?_
          · exact rσ66
          · exact fσ66
          · exact ⟨ThE.fr (jx := jx) (K := [42]) (S := []) t9 (by repeat (first | exact Fr.rf | assumption | refine Fr.aJ g ?_ (by decide) | refine Fr.aI g ?_ (by decide) | refine Fr.sI g ?_ (by decide) | refine Fr.sJ g ?_ (by decide))) (by decide) (by decide), RecE.fr (K := [42]) (S := []) r9 (by repeat (first | exact Fr.rf | assumption | refine Fr.aJ g ?_ (by decide) | refine Fr.aI g ?_ (by decide) | refine Fr.sI g ?_ (by decide) | refine Fr.sJ g ?_ (by decide))) (by decide) (by decide), HeE.fr (jx := jx) (K := [42]) (S := []) e9 (by repeat (first | exact Fr.rf | assumption | refine Fr.aJ g ?_ (by decide) | refine Fr.aI g ?_ (by decide) | refine Fr.sI g ?_ (by decide) | refine Fr.sJ g ?_ (by decide))) (by decide) (by decide)⟩
        · rename_i hc157
          skip
          unfold w_X16_takeRow_160
          try simp only [forall_eq, rII, rIJ, rIP, rJJ, rJI, rJP, rPP, rPI, rPJ, g1, g2, g3, g4, g5, g6, g7, g8, Nat.reduceEqDiff, Nat.reduceAdd, false_and, and_false, true_and, and_true, reduceIte, nZ0, nZ1, eσ66_38.1, eσ66_38.2, eσ66_81.1, eσ66_81.2, fun a k => (jσ66 a k).1, fun a k => (jσ66 a k).2, pσ66]
          refine s_X16_emit (b4 := (ra 81)) (n4 := 8) g rσ66 (by first | exact hj | (rw [fσ66.2.2.2]; exact hj)) hja rfl (Or.inl ⟨81, rfl, by decide⟩) (by exact t9) (by (try simp only [rII, rIJ, rIP, rJJ, rJI, rJP, rPP, rPI, rPJ, g1, g2, g3, g4, g5, g6, g7, g8, Nat.reduceEqDiff, Nat.reduceAdd, false_and, and_false, true_and, and_true, reduceIte, nZ0, nZ1, eσ66_38.1, eσ66_38.2, eσ66_81.1, eσ66_81.2, fun a k => (jσ66 a k).1, fun a k => (jσ66 a k).2, pσ66]) <;> (first | omega | with_reducible assumption | (unfold rng; omega) | (unfold rng; (repeat' split) <;> omega) | grind)) h3 (by (try simp only [rII, rIJ, rIP, rJJ, rJI, rJP, rPP, rPI, rPJ, g1, g2, g3, g4, g5, g6, g7, g8, Nat.reduceEqDiff, Nat.reduceAdd, false_and, and_false, true_and, and_true, reduceIte, nZ0, nZ1, eσ66_38.1, eσ66_38.2, eσ66_81.1, eσ66_81.2, fun a k => (jσ66 a k).1, fun a k => (jσ66 a k).2, pσ66]) <;> (first | omega | with_reducible assumption | (unfold rng; omega) | (unfold rng; (repeat' split) <;> omega) | grind)) (by (try simp only [rII, rIJ, rIP, rJJ, rJI, rJP, rPP, rPI, rPJ, g1, g2, g3, g4, g5, g6, g7, g8, Nat.reduceEqDiff, Nat.reduceAdd, false_and, and_false, true_and, and_true, reduceIte, nZ0, nZ1, eσ66_38.1, eσ66_38.2, eσ66_81.1, eσ66_81.2, fun a k => (jσ66 a k).1, fun a k => (jσ66 a k).2, pσ66]) <;> (first | omega | with_reducible assumption | (unfold rng; omega) | (unfold rng; (repeat' split) <;> omega) | grind)) (by (try simp only [rII, rIJ, rIP, rJJ, rJI, rJP, rPP, rPI, rPJ, g1, g2, g3, g4, g5, g6, g7, g8, Nat.reduceEqDiff, Nat.reduceAdd, false_and, and_false, true_and, and_true, reduceIte, nZ0, nZ1, eσ66_38.1, eσ66_38.2, eσ66_81.1, eσ66_81.2, fun a k => (jσ66 a k).1, fun a k => (jσ66 a k).2, pσ66]) <;> (first | omega | with_reducible assumption | (unfold rng; omega) | (unfold rng; (repeat' split) <;> omega) | grind)) (by (try simp only [rII, rIJ, rIP, rJJ, rJI, rJP, rPP, rPI, rPJ, g1, g2, g3, g4, g5, g6, g7, g8, Nat.reduceEqDiff, Nat.reduceAdd, false_and, and_false, true_and, and_true, reduceIte, nZ0, nZ1, eσ66_38.1, eσ66_38.2, eσ66_81.1, eσ66_81.2, fun a k => (jσ66 a k).1, fun a k => (jσ66 a k).2, pσ66]) <;> first | exact hp | (rw [(fσ66.2.1 33 (by decide)).1]; exact hp)) (fun σ68 _ rσ68 fc p6 => ?_) (fun σx E rx fx px => hX _ _ rx (Fr.tr fσ66 (Fr.mor (fx) (by decide) (by decide))) ⟨px.1, px.2, RecE.fr r9 fx (by decide) (by decide), HeE.fr e9 fx (by decide) (by decide)⟩)
          have fσ68 : Fr ra jx rm [20, 26, 42, 46, 47, 48, 49, 60, 61, 62, 63, 64, 65, 68, 69, 70, 71, 72, 73, 74, 75, 76, 77, 78, 82, 83, 84, 85, 86, 87, 88, 89] [21, 27, 66, 67, 79, 80, 90, 91] σ σ68 := Fr.tr fσ66 (Fr.mor (fc) (by decide) (by decide))
          have fe9 := fc
          have r9 := RecE.fr r9 fe9 (by decide) (by decide)
          have e9 := HeE.fr e9 fe9 (by decide) (by decide)
          have t9 := p6
          have eσ68_38 := fσ68.1 38 (by decide)
          have eσ68_81 := fσ68.1 81 (by decide)
          have jσ68 := fσ68.2.2.1
          have pσ68 := fσ68.2.2.2
          try simp only [forall_eq, rII, rIJ, rIP, rJJ, rJI, rJP, rPP, rPI, rPJ, g1, g2, g3, g4, g5, g6, g7, g8, Nat.reduceEqDiff, Nat.reduceAdd, false_and, and_false, true_and, and_true, reduceIte, nZ0, nZ1, eσ68_38.1, eσ68_38.2, eσ68_81.1, eσ68_81.2, fun a k => (jσ68 a k).1, fun a k => (jσ68 a k).2, pσ68]
          unfold w_X16_takeRow_452
          try simp only [forall_eq, rII, rIJ, rIP, rJJ, rJI, rJP, rPP, rPI, rPJ, g1, g2, g3, g4, g5, g6, g7, g8, Nat.reduceEqDiff, Nat.reduceAdd, false_and, and_false, true_and, and_true, reduceIte, nZ0, nZ1, eσ68_38.1, eσ68_38.2, eσ68_81.1, eσ68_81.2, fun a k => (jσ68 a k).1, fun a k => (jσ68 a k).2, pσ68]
          refine hQ _ _ ?_ ?_ ?_
          · exact rσ68
          · exact fσ68
          · exact ⟨ThE.fr (jx := jx) (K := [42]) (S := []) t9 (by repeat (first | exact Fr.rf | assumption | refine Fr.aJ g ?_ (by decide) | refine Fr.aI g ?_ (by decide) | refine Fr.sI g ?_ (by decide) | refine Fr.sJ g ?_ (by decide))) (by decide) (by decide), RecE.fr (K := [42]) (S := []) r9 (by repeat (first | exact Fr.rf | assumption | refine Fr.aJ g ?_ (by decide) | refine Fr.aI g ?_ (by decide) | refine Fr.sI g ?_ (by decide) | refine Fr.sJ g ?_ (by decide))) (by decide) (by decide), HeE.fr (jx := jx) (K := [42]) (S := []) e9 (by repeat (first | exact Fr.rf | assumption | refine Fr.aJ g ?_ (by decide) | refine Fr.aI g ?_ (by decide) | refine Fr.sI g ?_ (by decide) | refine Fr.sJ g ?_ (by decide))) (by decide) (by decide)⟩
      · rename_i hc137
        skip
        unfold w_X16_takeRow_140
        try simp only [forall_eq, rII, rIJ, rIP, rJJ, rJI, rJP, rPP, rPI, rPJ, g1, g2, g3, g4, g5, g6, g7, g8, Nat.reduceEqDiff, Nat.reduceAdd, false_and, and_false, true_and, and_true, reduceIte, nZ0, nZ1, eσ66_38.1, eσ66_38.2, eσ66_81.1, eσ66_81.2, fun a k => (jσ66 a k).1, fun a k => (jσ66 a k).2, pσ66]
        refine ⟨by (first | omega | with_reducible assumption | (unfold rng; omega) | (unfold rng; (repeat' split) <;> omega) | grind), ?_⟩
        refine ⟨by (first | omega | with_reducible assumption | (unfold rng; omega) | (unfold rng; (repeat' split) <;> omega) | grind), ?_⟩
        have q7 := rσ66.1 42 (v1.toNat); simp only [rgT] at q7
        unfold w_X16_takeRow_452
        try simp only [forall_eq, rII, rIJ, rIP, rJJ, rJI, rJP, rPP, rPI, rPJ, g1, g2, g3, g4, g5, g6, g7, g8, Nat.reduceEqDiff, Nat.reduceAdd, false_and, and_false, true_and, and_true, reduceIte, nZ0, nZ1, eσ66_38.1, eσ66_38.2, eσ66_81.1, eσ66_81.2, fun a k => (jσ66 a k).1, fun a k => (jσ66 a k).2, pσ66]
        refine hQ _ _ ?_ ?_ ?_
        · refine Rg.aI g ?_ (by simp only [rgT]; first | with_reducible exact nZ_rng _ | with_reducible exact nB_rng _ | with_reducible exact wr_rng _ | with_reducible exact i32any _ | (first | omega | with_reducible assumption | (unfold rng; omega) | (unfold rng; (repeat' split) <;> omega) | grind)); exact rσ66
        · refine Fr.aI g ?_ (by decide); exact fσ66
        · exact ⟨ThE.fr (jx := jx) (K := [42]) (S := []) t9 (by repeat (first | exact Fr.rf | assumption | refine Fr.aJ g ?_ (by decide) | refine Fr.aI g ?_ (by decide) | refine Fr.sI g ?_ (by decide) | refine Fr.sJ g ?_ (by decide))) (by decide) (by decide), RecE.fr (K := [42]) (S := []) r9 (by repeat (first | exact Fr.rf | assumption | refine Fr.aJ g ?_ (by decide) | refine Fr.aI g ?_ (by decide) | refine Fr.sI g ?_ (by decide) | refine Fr.sJ g ?_ (by decide))) (by decide) (by decide), HeE.fr (jx := jx) (K := [42]) (S := []) e9 (by repeat (first | exact Fr.rf | assumption | refine Fr.aJ g ?_ (by decide) | refine Fr.aI g ?_ (by decide) | refine Fr.sI g ?_ (by decide) | refine Fr.sJ g ?_ (by decide))) (by decide) (by decide)⟩
    · rw [if_neg hc47_0]
      by_cases hc47_1 : (gI σ (jx ja 2) (gI σ (ra 38) v1.toNat).toNat) = 2
      · rw [if_pos hc47_1]
        unfold w_X16_takeRow_176
        try simp only [forall_eq, rII, rIJ, rIP, rJJ, rJI, rJP, rPP, rPI, rPJ, g1, g2, g3, g4, g5, g6, g7, g8, Nat.reduceEqDiff, Nat.reduceAdd, false_and, and_false, true_and, and_true, reduceIte, nZ0, nZ1]
        refine s_X16_takeMap g rσ (by first | exact hj | (rw [fσ.2.2.2]; exact hj)) hja (by exact t9) (by (try simp only [rII, rIJ, rIP, rJJ, rJI, rJP, rPP, rPI, rPJ, g1, g2, g3, g4, g5, g6, g7, g8, Nat.reduceEqDiff, Nat.reduceAdd, false_and, and_false, true_and, and_true, reduceIte, nZ0, nZ1]) <;> (first | omega | with_reducible assumption | (unfold rng; omega) | (unfold rng; (repeat' split) <;> omega) | grind)) (by (try simp only [rII, rIJ, rIP, rJJ, rJI, rJP, rPP, rPI, rPJ, g1, g2, g3, g4, g5, g6, g7, g8, Nat.reduceEqDiff, Nat.reduceAdd, false_and, and_false, true_and, and_true, reduceIte, nZ0, nZ1]) <;> (first | omega | with_reducible assumption | (unfold rng; omega) | (unfold rng; (repeat' split) <;> omega) | grind)) (by first | exact h3 | omega) (by (try simp only [rII, rIJ, rIP, rJJ, rJI, rJP, rPP, rPI, rPJ, g1, g2, g3, g4, g5, g6, g7, g8, Nat.reduceEqDiff, Nat.reduceAdd, false_and, and_false, true_and, and_true, reduceIte, nZ0, nZ1]) <;> (first | omega | with_reducible assumption | (unfold rng; omega) | (unfold rng; (repeat' split) <;> omega) | grind)) (by (try simp only [rII, rIJ, rIP, rJJ, rJI, rJP, rPP, rPI, rPJ, g1, g2, g3, g4, g5, g6, g7, g8, Nat.reduceEqDiff, Nat.reduceAdd, false_and, and_false, true_and, and_true, reduceIte, nZ0, nZ1]) <;> first | exact hp | (rw [(fσ.2.1 33 (by decide)).1]; exact hp)) (by exact (o4 (by omega)).2) (fun σ70 _ rσ70 fc p8 => ?_) (fun σx E rx fx px => hX _ _ rx (Fr.tr fσ (Fr.mor (fx) (by decide) (by decide))) ⟨px.1, px.2, RecE.fr r9 fx (by decide) (by decide), HeE.fr e9 fx (by decide) (by decide)⟩)
        have fσ70 : Fr ra jx rm [20, 26, 42, 46, 47, 48, 49, 60, 61, 62, 63, 64, 65, 68, 69, 70, 71, 72, 73, 74, 75, 76, 77, 78, 82, 83, 84, 85, 86, 87, 88, 89] [21, 27, 66, 67, 79, 80, 90, 91] σ σ70 := Fr.tr fσ (Fr.mor (fc) (by decide) (by decide))
        have r9 := RecE.fr r9 fc (by decide) (by decide)
        have e9 := HeE.fr e9 fc (by decide) (by decide)
        have t9 := p8
        have eσ70_38 := fσ70.1 38 (by decide)
        have eσ70_81 := fσ70.1 81 (by decide)
        have jσ70 := fσ70.2.2.1
        have pσ70 := fσ70.2.2.2
        try simp only [forall_eq, rII, rIJ, rIP, rJJ, rJI, rJP, rPP, rPI, rPJ, g1, g2, g3, g4, g5, g6, g7, g8, Nat.reduceEqDiff, Nat.reduceAdd, false_and, and_false, true_and, and_true, reduceIte, nZ0, nZ1, eσ70_38.1, eσ70_38.2, eσ70_81.1, eσ70_81.2, fun a k => (jσ70 a k).1, fun a k => (jσ70 a k).2, pσ70]
        unfold w_X16_takeRow_452
        try simp only [forall_eq, rII, rIJ, rIP, rJJ, rJI, rJP, rPP, rPI, rPJ, g1, g2, g3, g4, g5, g6, g7, g8, Nat.reduceEqDiff, Nat.reduceAdd, false_and, and_false, true_and, and_true, reduceIte, nZ0, nZ1, eσ70_38.1, eσ70_38.2, eσ70_81.1, eσ70_81.2, fun a k => (jσ70 a k).1, fun a k => (jσ70 a k).2, pσ70]
        refine hQ _ _ ?_ ?_ ?_
        · exact rσ70
        · exact fσ70
        · exact ⟨ThE.fr (jx := jx) (K := [42]) (S := []) t9 (by repeat (first | exact Fr.rf | assumption | refine Fr.aJ g ?_ (by decide) | refine Fr.aI g ?_ (by decide) | refine Fr.sI g ?_ (by decide) | refine Fr.sJ g ?_ (by decide))) (by decide) (by decide), RecE.fr (K := [42]) (S := []) r9 (by repeat (first | exact Fr.rf | assumption | refine Fr.aJ g ?_ (by decide) | refine Fr.aI g ?_ (by decide) | refine Fr.sI g ?_ (by decide) | refine Fr.sJ g ?_ (by decide))) (by decide) (by decide), HeE.fr (jx := jx) (K := [42]) (S := []) e9 (by repeat (first | exact Fr.rf | assumption | refine Fr.aJ g ?_ (by decide) | refine Fr.aI g ?_ (by decide) | refine Fr.sI g ?_ (by decide) | refine Fr.sJ g ?_ (by decide))) (by decide) (by decide)⟩
      · rw [if_neg hc47_1]
        by_cases hc47_2 : (gI σ (jx ja 2) (gI σ (ra 38) v1.toNat).toNat) = 3
        · rw [if_pos hc47_2]
          unfold w_X16_takeRow_189
          try simp only [forall_eq, rII, rIJ, rIP, rJJ, rJI, rJP, rPP, rPI, rPJ, g1, g2, g3, g4, g5, g6, g7, g8, Nat.reduceEqDiff, Nat.reduceAdd, false_and, and_false, true_and, and_true, reduceIte, nZ0, nZ1]
          refine s_X16_emit (b4 := (ra 81)) (n4 := 8) g rσ (by first | exact hj | (rw [fσ.2.2.2]; exact hj)) hja rfl (Or.inl ⟨81, rfl, by decide⟩) (by exact t9) (by (try simp only [rII, rIJ, rIP, rJJ, rJI, rJP, rPP, rPI, rPJ, g1, g2, g3, g4, g5, g6, g7, g8, Nat.reduceEqDiff, Nat.reduceAdd, false_and, and_false, true_and, and_true, reduceIte, nZ0, nZ1]) <;> (first | omega | with_reducible assumption | (unfold rng; omega) | (unfold rng; (repeat' split) <;> omega) | grind)) h3 (by (try simp only [rII, rIJ, rIP, rJJ, rJI, rJP, rPP, rPI, rPJ, g1, g2, g3, g4, g5, g6, g7, g8, Nat.reduceEqDiff, Nat.reduceAdd, false_and, and_false, true_and, and_true, reduceIte, nZ0, nZ1]) <;> (first | omega | with_reducible assumption | (unfold rng; omega) | (unfold rng; (repeat' split) <;> omega) | grind)) (by (try simp only [rII, rIJ, rIP, rJJ, rJI, rJP, rPP, rPI, rPJ, g1, g2, g3, g4, g5, g6, g7, g8, Nat.reduceEqDiff, Nat.reduceAdd, false_and, and_false, true_and, and_true, reduceIte, nZ0, nZ1]) <;> (first | omega | with_reducible assumption | (unfold rng; omega) | (unfold rng; (repeat' split) <;> omega) | grind)) (by (try simp only [rII, rIJ, rIP, rJJ, rJI, rJP, rPP, rPI, rPJ, g1, g2, g3, g4, g5, g6, g7, g8, Nat.reduceEqDiff, Nat.reduceAdd, false_and, and_false, true_and, and_true, reduceIte, nZ0, nZ1]) <;> (first | omega | with_reducible assumption | (unfold rng; omega) | (unfold rng; (repeat' split) <;> omega) | grind)) (by (try simp only [rII, rIJ, rIP, rJJ, rJI, rJP, rPP, rPI, rPJ, g1, g2, g3, g4, g5, g6, g7, g8, Nat.reduceEqDiff, Nat.reduceAdd, false_and, and_false, true_and, and_true, reduceIte, nZ0, nZ1]) <;> first | exact hp | (rw [(fσ.2.1 33 (by decide)).1]; exact hp)) (fun σ71 _ rσ71 fc p9 => ?_) (fun σx E rx fx px => hX _ _ rx (Fr.tr fσ (Fr.mor (fx) (by decide) (by decide))) ⟨px.1, px.2, RecE.fr r9 fx (by decide) (by decide), HeE.fr e9 fx (by decide) (by decide)⟩)
          have fσ71 : Fr ra jx rm [20, 26, 42, 46, 47, 48, 49, 60, 61, 62, 63, 64, 65, 68, 69, 70, 71, 72, 73, 74, 75, 76, 77, 78, 82, 83, 84, 85, 86, 87, 88, 89] [21, 27, 66, 67, 79, 80, 90, 91] σ σ71 := Fr.tr fσ (Fr.mor (fc) (by decide) (by decide))
          have fe9 := fc
          have r9 := RecE.fr r9 fe9 (by decide) (by decide)
          have e9 := HeE.fr e9 fe9 (by decide) (by decide)
          have t9 := p9
          have eσ71_38 := fσ71.1 38 (by decide)
          have eσ71_81 := fσ71.1 81 (by decide)
          have jσ71 := fσ71.2.2.1
          have pσ71 := fσ71.2.2.2
          try simp only [forall_eq, rII, rIJ, rIP, rJJ, rJI, rJP, rPP, rPI, rPJ, g1, g2, g3, g4, g5, g6, g7, g8, Nat.reduceEqDiff, Nat.reduceAdd, false_and, and_false, true_and, and_true, reduceIte, nZ0, nZ1, eσ71_38.1, eσ71_38.2, eσ71_81.1, eσ71_81.2, fun a k => (jσ71 a k).1, fun a k => (jσ71 a k).2, pσ71]
          unfold w_X16_takeRow_452
          try simp only [forall_eq, rII, rIJ, rIP, rJJ, rJI, rJP, rPP, rPI, rPJ, g1, g2, g3, g4, g5, g6, g7, g8, Nat.reduceEqDiff, Nat.reduceAdd, false_and, and_false, true_and, and_true, reduceIte, nZ0, nZ1, eσ71_38.1, eσ71_38.2, eσ71_81.1, eσ71_81.2, fun a k => (jσ71 a k).1, fun a k => (jσ71 a k).2, pσ71]
          refine hQ _ _ ?_ ?_ ?_
          · exact rσ71
          · exact fσ71
          · exact ⟨ThE.fr (jx := jx) (K := [42]) (S := []) t9 (by repeat (first | exact Fr.rf | assumption | refine Fr.aJ g ?_ (by decide) | refine Fr.aI g ?_ (by decide) | refine Fr.sI g ?_ (by decide) | refine Fr.sJ g ?_ (by decide))) (by decide) (by decide), RecE.fr (K := [42]) (S := []) r9 (by repeat (first | exact Fr.rf | assumption | refine Fr.aJ g ?_ (by decide) | refine Fr.aI g ?_ (by decide) | refine Fr.sI g ?_ (by decide) | refine Fr.sJ g ?_ (by decide))) (by decide) (by decide), HeE.fr (jx := jx) (K := [42]) (S := []) e9 (by repeat (first | exact Fr.rf | assumption | refine Fr.aJ g ?_ (by decide) | refine Fr.aI g ?_ (by decide) | refine Fr.sI g ?_ (by decide) | refine Fr.sJ g ?_ (by decide))) (by decide) (by decide)⟩
        · rw [if_neg hc47_2]
          by_cases hc47_3 : (gI σ (jx ja 2) (gI σ (ra 38) v1.toNat).toNat) = 4
          · rw [if_pos hc47_3]
            unfold w_X16_takeRow_205
            try simp only [forall_eq, rII, rIJ, rIP, rJJ, rJI, rJP, rPP, rPI, rPJ, g1, g2, g3, g4, g5, g6, g7, g8, Nat.reduceEqDiff, Nat.reduceAdd, false_and, and_false, true_and, and_true, reduceIte, nZ0, nZ1]
            refine s_X16_takeSpans g rσ (by first | exact hj | (rw [fσ.2.2.2]; exact hj)) hja (by exact r9) (by (try simp only [rII, rIJ, rIP, rJJ, rJI, rJP, rPP, rPI, rPJ, g1, g2, g3, g4, g5, g6, g7, g8, Nat.reduceEqDiff, Nat.reduceAdd, false_and, and_false, true_and, and_true, reduceIte, nZ0, nZ1]) <;> (first | omega | with_reducible assumption | (unfold rng; omega) | (unfold rng; (repeat' split) <;> omega) | grind)) (by (try simp only [rII, rIJ, rIP, rJJ, rJI, rJP, rPP, rPI, rPJ, g1, g2, g3, g4, g5, g6, g7, g8, Nat.reduceEqDiff, Nat.reduceAdd, false_and, and_false, true_and, and_true, reduceIte, nZ0, nZ1]) <;> (first | omega | with_reducible assumption | (unfold rng; omega) | (unfold rng; (repeat' split) <;> omega) | grind)) (by first | exact h3 | omega) (by (try simp only [rII, rIJ, rIP, rJJ, rJI, rJP, rPP, rPI, rPJ, g1, g2, g3, g4, g5, g6, g7, g8, Nat.reduceEqDiff, Nat.reduceAdd, false_and, and_false, true_and, and_true, reduceIte, nZ0, nZ1]) <;> (first | omega | with_reducible assumption | (unfold rng; omega) | (unfold rng; (repeat' split) <;> omega) | grind)) (by exact (o6 (by omega)).2) (by exact o7 (by omega)) (by (try simp only [rII, rIJ, rIP, rJJ, rJI, rJP, rPP, rPI, rPJ, g1, g2, g3, g4, g5, g6, g7, g8, Nat.reduceEqDiff, Nat.reduceAdd, false_and, and_false, true_and, and_true, reduceIte, nZ0, nZ1]) <;> first | rfl | omega) (by (try simp only [rII, rIJ, rIP, rJJ, rJI, rJP, rPP, rPI, rPJ, g1, g2, g3, g4, g5, g6, g7, g8, Nat.reduceEqDiff, Nat.reduceAdd, false_and, and_false, true_and, and_true, reduceIte, nZ0, nZ1]) <;> omega) (fun σ72 _ rσ72 fc p10 => ?_) (fun σx E rx fx px => hX _ _ rx (Fr.tr fσ (Fr.mor (fx) (by decide) (by decide))) ⟨px.1, ThE.fr t9 fx (by decide) (by decide), px.2, HeE.fr e9 fx (by decide) (by decide)⟩)
            have fσ72 : Fr ra jx rm [20, 26, 42, 46, 47, 48, 49, 60, 61, 62, 63, 64, 65, 68, 69, 70, 71, 72, 73, 74, 75, 76, 77, 78, 82, 83, 84, 85, 86, 87, 88, 89] [21, 27, 66, 67, 79, 80, 90, 91] σ σ72 := Fr.tr fσ (Fr.mor (fc) (by decide) (by decide))
            have t9 := ThE.fr t9 fc (by decide) (by decide)
            have e9 := HeE.fr e9 fc (by decide) (by decide)
            have r9 := p10
            have eσ72_38 := fσ72.1 38 (by decide)
            have eσ72_81 := fσ72.1 81 (by decide)
            have jσ72 := fσ72.2.2.1
            have pσ72 := fσ72.2.2.2
            try simp only [forall_eq, rII, rIJ, rIP, rJJ, rJI, rJP, rPP, rPI, rPJ, g1, g2, g3, g4, g5, g6, g7, g8, Nat.reduceEqDiff, Nat.reduceAdd, false_and, and_false, true_and, and_true, reduceIte, nZ0, nZ1, eσ72_38.1, eσ72_38.2, eσ72_81.1, eσ72_81.2, fun a k => (jσ72 a k).1, fun a k => (jσ72 a k).2, pσ72]
            unfold w_X16_takeRow_452
            try simp only [forall_eq, rII, rIJ, rIP, rJJ, rJI, rJP, rPP, rPI, rPJ, g1, g2, g3, g4, g5, g6, g7, g8, Nat.reduceEqDiff, Nat.reduceAdd, false_and, and_false, true_and, and_true, reduceIte, nZ0, nZ1, eσ72_38.1, eσ72_38.2, eσ72_81.1, eσ72_81.2, fun a k => (jσ72 a k).1, fun a k => (jσ72 a k).2, pσ72]
            refine hQ _ _ ?_ ?_ ?_
            · exact rσ72
            · exact fσ72
            · exact ⟨ThE.fr (jx := jx) (K := [42]) (S := []) t9 (by repeat (first | exact Fr.rf | assumption | refine Fr.aJ g ?_ (by decide) | refine Fr.aI g ?_ (by decide) | refine Fr.sI g ?_ (by decide) | refine Fr.sJ g ?_ (by decide))) (by decide) (by decide), RecE.fr (K := [42]) (S := []) r9 (by repeat (first | exact Fr.rf | assumption | refine Fr.aJ g ?_ (by decide) | refine Fr.aI g ?_ (by decide) | refine Fr.sI g ?_ (by decide) | refine Fr.sJ g ?_ (by decide))) (by decide) (by decide), HeE.fr (jx := jx) (K := [42]) (S := []) e9 (by repeat (first | exact Fr.rf | assumption | refine Fr.aJ g ?_ (by decide) | refine Fr.aI g ?_ (by decide) | refine Fr.sI g ?_ (by decide) | refine Fr.sJ g ?_ (by decide))) (by decide) (by decide)⟩
          · rw [if_neg hc47_3]
            by_cases hc47_4 : (gI σ (jx ja 2) (gI σ (ra 38) v1.toNat).toNat) = 5
            · rw [if_pos hc47_4]
              unfold w_X16_takeRow_218
              try simp only [forall_eq, rII, rIJ, rIP, rJJ, rJI, rJP, rPP, rPI, rPJ, g1, g2, g3, g4, g5, g6, g7, g8, Nat.reduceEqDiff, Nat.reduceAdd, false_and, and_false, true_and, and_true, reduceIte, nZ0, nZ1]
              refine s_X16_takeGaps g rσ (by first | exact hj | (rw [fσ.2.2.2]; exact hj)) hja (by exact r9) (by (try simp only [rII, rIJ, rIP, rJJ, rJI, rJP, rPP, rPI, rPJ, g1, g2, g3, g4, g5, g6, g7, g8, Nat.reduceEqDiff, Nat.reduceAdd, false_and, and_false, true_and, and_true, reduceIte, nZ0, nZ1]) <;> (first | omega | with_reducible assumption | (unfold rng; omega) | (unfold rng; (repeat' split) <;> omega) | grind)) (by (try simp only [rII, rIJ, rIP, rJJ, rJI, rJP, rPP, rPI, rPJ, g1, g2, g3, g4, g5, g6, g7, g8, Nat.reduceEqDiff, Nat.reduceAdd, false_and, and_false, true_and, and_true, reduceIte, nZ0, nZ1]) <;> (first | omega | with_reducible assumption | (unfold rng; omega) | (unfold rng; (repeat' split) <;> omega) | grind)) (by first | exact h3 | omega) (by (try simp only [rII, rIJ, rIP, rJJ, rJI, rJP, rPP, rPI, rPJ, g1, g2, g3, g4, g5, g6, g7, g8, Nat.reduceEqDiff, Nat.reduceAdd, false_and, and_false, true_and, and_true, reduceIte, nZ0, nZ1]) <;> (first | omega | with_reducible assumption | (unfold rng; omega) | (unfold rng; (repeat' split) <;> omega) | grind)) (by exact (o6 (by omega)).2) (by (try simp only [rII, rIJ, rIP, rJJ, rJI, rJP, rPP, rPI, rPJ, g1, g2, g3, g4, g5, g6, g7, g8, Nat.reduceEqDiff, Nat.reduceAdd, false_and, and_false, true_and, and_true, reduceIte, nZ0, nZ1]) <;> first | rfl | omega) (by (try simp only [rII, rIJ, rIP, rJJ, rJI, rJP, rPP, rPI, rPJ, g1, g2, g3, g4, g5, g6, g7, g8, Nat.reduceEqDiff, Nat.reduceAdd, false_and, and_false, true_and, and_true, reduceIte, nZ0, nZ1]) <;> omega) (fun σ73 _ rσ73 fc p11 => ?_) (fun σx E rx fx px => hX _ _ rx (Fr.tr fσ (Fr.mor (fx) (by decide) (by decide))) ⟨px.1, ThE.fr t9 fx (by decide) (by decide), px.2, HeE.fr e9 fx (by decide) (by decide)⟩)
              have fσ73 : Fr ra jx rm [20, 26, 42, 46, 47, 48, 49, 60, 61, 62, 63, 64, 65, 68, 69, 70, 71, 72, 73, 74, 75, 76, 77, 78, 82, 83, 84, 85, 86, 87, 88, 89] [21, 27, 66, 67, 79, 80, 90, 91] σ σ73 := Fr.tr fσ (Fr.mor (fc) (by decide) (by decide))
              have t9 := ThE.fr t9 fc (by decide) (by decide)
              have e9 := HeE.fr e9 fc (by decide) (by decide)
              have r9 := p11
              have eσ73_38 := fσ73.1 38 (by decide)
              have eσ73_81 := fσ73.1 81 (by decide)
              have jσ73 := fσ73.2.2.1
              have pσ73 := fσ73.2.2.2
              try simp only [forall_eq, rII, rIJ, rIP, rJJ, rJI, rJP, rPP, rPI, rPJ, g1, g2, g3, g4, g5, g6, g7, g8, Nat.reduceEqDiff, Nat.reduceAdd, false_and, and_false, true_and, and_true, reduceIte, nZ0, nZ1, eσ73_38.1, eσ73_38.2, eσ73_81.1, eσ73_81.2, fun a k => (jσ73 a k).1, fun a k => (jσ73 a k).2, pσ73]
              unfold w_X16_takeRow_452
              try simp only [forall_eq, rII, rIJ, rIP, rJJ, rJI, rJP, rPP, rPI, rPJ, g1, g2, g3, g4, g5, g6, g7, g8, Nat.reduceEqDiff, Nat.reduceAdd, false_and, and_false, true_and, and_true, reduceIte, nZ0, nZ1, eσ73_38.1, eσ73_38.2, eσ73_81.1, eσ73_81.2, fun a k => (jσ73 a k).1, fun a k => (jσ73 a k).2, pσ73]
              refine hQ _ _ ?_ ?_ ?_
              · exact rσ73
              · exact fσ73
              · exact ⟨ThE.fr (jx := jx) (K := [42]) (S := []) t9 (by repeat (first | exact Fr.rf | assumption | refine Fr.aJ g ?_ (by decide) | refine Fr.aI g ?_ (by decide) | refine Fr.sI g ?_ (by decide) | refine Fr.sJ g ?_ (by decide))) (by decide) (by decide), RecE.fr (K := [42]) (S := []) r9 (by repeat (first | exact Fr.rf | assumption | refine Fr.aJ g ?_ (by decide) | refine Fr.aI g ?_ (by decide) | refine Fr.sI g ?_ (by decide) | refine Fr.sJ g ?_ (by decide))) (by decide) (by decide), HeE.fr (jx := jx) (K := [42]) (S := []) e9 (by repeat (first | exact Fr.rf | assumption | refine Fr.aJ g ?_ (by decide) | refine Fr.aI g ?_ (by decide) | refine Fr.sI g ?_ (by decide) | refine Fr.sJ g ?_ (by decide))) (by decide) (by decide)⟩
            · rw [if_neg hc47_4]
              by_cases hc47_5 : (gI σ (jx ja 2) (gI σ (ra 38) v1.toNat).toNat) = 6
              · rw [if_pos hc47_5]
                unfold w_X16_takeRow_231
                try simp only [forall_eq, rII, rIJ, rIP, rJJ, rJI, rJP, rPP, rPI, rPJ, g1, g2, g3, g4, g5, g6, g7, g8, Nat.reduceEqDiff, Nat.reduceAdd, false_and, and_false, true_and, and_true, reduceIte, nZ0, nZ1]
                refine s_X16_takeJoin g rσ (by first | exact hj | (rw [fσ.2.2.2]; exact hj)) hja (by exact r9) (by exact t9) (by (try simp only [rII, rIJ, rIP, rJJ, rJI, rJP, rPP, rPI, rPJ, g1, g2, g3, g4, g5, g6, g7, g8, Nat.reduceEqDiff, Nat.reduceAdd, false_and, and_false, true_and, and_true, reduceIte, nZ0, nZ1]) <;> (first | omega | with_reducible assumption | (unfold rng; omega) | (unfold rng; (repeat' split) <;> omega) | grind)) (by (try simp only [rII, rIJ, rIP, rJJ, rJI, rJP, rPP, rPI, rPJ, g1, g2, g3, g4, g5, g6, g7, g8, Nat.reduceEqDiff, Nat.reduceAdd, false_and, and_false, true_and, and_true, reduceIte, nZ0, nZ1]) <;> (first | omega | with_reducible assumption | (unfold rng; omega) | (unfold rng; (repeat' split) <;> omega) | grind)) (by first | exact h3 | omega) (by first | exact h3 | omega) (by (try simp only [rII, rIJ, rIP, rJJ, rJI, rJP, rPP, rPI, rPJ, g1, g2, g3, g4, g5, g6, g7, g8, Nat.reduceEqDiff, Nat.reduceAdd, false_and, and_false, true_and, and_true, reduceIte, nZ0, nZ1]) <;> (first | omega | with_reducible assumption | (unfold rng; omega) | (unfold rng; (repeat' split) <;> omega) | grind)) (by (try simp only [rII, rIJ, rIP, rJJ, rJI, rJP, rPP, rPI, rPJ, g1, g2, g3, g4, g5, g6, g7, g8, Nat.reduceEqDiff, Nat.reduceAdd, false_and, and_false, true_and, and_true, reduceIte, nZ0, nZ1]) <;> first | exact hp | (rw [(fσ.2.1 33 (by decide)).1]; exact hp)) (by omega) (by exact o2 (by omega)) (by (try simp only [rII, rIJ, rIP, rJJ, rJI, rJP, rPP, rPI, rPJ, g1, g2, g3, g4, g5, g6, g7, g8, Nat.reduceEqDiff, Nat.reduceAdd, false_and, and_false, true_and, and_true, reduceIte, nZ0, nZ1]) <;> first | rfl | omega) (by (try simp only [rII, rIJ, rIP, rJJ, rJI, rJP, rPP, rPI, rPJ, g1, g2, g3, g4, g5, g6, g7, g8, Nat.reduceEqDiff, Nat.reduceAdd, false_and, and_false, true_and, and_true, reduceIte, nZ0, nZ1]) <;> omega) (fun σ74 _ rσ74 fc p12 => ?_) (fun σx E rx fx px => hX _ _ rx (Fr.tr fσ (Fr.mor (fx) (by decide) (by decide))) ⟨px.1, px.2.1, px.2.2, HeE.fr e9 fx (by decide) (by decide)⟩)
                have fσ74 : Fr ra jx rm [20, 26, 42, 46, 47, 48, 49, 60, 61, 62, 63, 64, 65, 68, 69, 70, 71, 72, 73, 74, 75, 76, 77, 78, 82, 83, 84, 85, 86, 87, 88, 89] [21, 27, 66, 67, 79, 80, 90, 91] σ σ74 := Fr.tr fσ (Fr.mor (fc) (by decide) (by decide))
                have e9 := HeE.fr e9 fc (by decide) (by decide)
                have r9 := p12.1
                have t9 := p12.2
                have eσ74_38 := fσ74.1 38 (by decide)
                have eσ74_81 := fσ74.1 81 (by decide)
                have jσ74 := fσ74.2.2.1
                have pσ74 := fσ74.2.2.2
                try simp only [forall_eq, rII, rIJ, rIP, rJJ, rJI, rJP, rPP, rPI, rPJ, g1, g2, g3, g4, g5, g6, g7, g8, Nat.reduceEqDiff, Nat.reduceAdd, false_and, and_false, true_and, and_true, reduceIte, nZ0, nZ1, eσ74_38.1, eσ74_38.2, eσ74_81.1, eσ74_81.2, fun a k => (jσ74 a k).1, fun a k => (jσ74 a k).2, pσ74]
                unfold w_X16_takeRow_452
                try simp only [forall_eq, rII, rIJ, rIP, rJJ, rJI, rJP, rPP, rPI, rPJ, g1, g2, g3, g4, g5, g6, g7, g8, Nat.reduceEqDiff, Nat.reduceAdd, false_and, and_false, true_and, and_true, reduceIte, nZ0, nZ1, eσ74_38.1, eσ74_38.2, eσ74_81.1, eσ74_81.2, fun a k => (jσ74 a k).1, fun a k => (jσ74 a k).2, pσ74]
                refine hQ _ _ ?_ ?_ ?_
                · exact rσ74
                · exact fσ74
                · exact ⟨ThE.fr (jx := jx) (K := [42]) (S := []) t9 (by repeat (first | exact Fr.rf | assumption | refine Fr.aJ g ?_ (by decide) | refine Fr.aI g ?_ (by decide) | refine Fr.sI g ?_ (by decide) | refine Fr.sJ g ?_ (by decide))) (by decide) (by decide), RecE.fr (K := [42]) (S := []) r9 (by repeat (first | exact Fr.rf | assumption | refine Fr.aJ g ?_ (by decide) | refine Fr.aI g ?_ (by decide) | refine Fr.sI g ?_ (by decide) | refine Fr.sJ g ?_ (by decide))) (by decide) (by decide), HeE.fr (jx := jx) (K := [42]) (S := []) e9 (by repeat (first | exact Fr.rf | assumption | refine Fr.aJ g ?_ (by decide) | refine Fr.aI g ?_ (by decide) | refine Fr.sI g ?_ (by decide) | refine Fr.sJ g ?_ (by decide))) (by decide) (by decide)⟩
              · rw [if_neg hc47_5]
                by_cases hc47_6 : (gI σ (jx ja 2) (gI σ (ra 38) v1.toNat).toNat) = 7
                · rw [if_pos hc47_6]
                  unfold w_X16_takeRow_245
                  try simp only [forall_eq, rII, rIJ, rIP, rJJ, rJI, rJP, rPP, rPI, rPJ, g1, g2, g3, g4, g5, g6, g7, g8, Nat.reduceEqDiff, Nat.reduceAdd, false_and, and_false, true_and, and_true, reduceIte, nZ0, nZ1]
                  rw [if_pos hc9]
                  unfold w_X16_takeRow_269
                  try simp only [forall_eq, rII, rIJ, rIP, rJJ, rJI, rJP, rPP, rPI, rPJ, g1, g2, g3, g4, g5, g6, g7, g8, Nat.reduceEqDiff, Nat.reduceAdd, false_and, and_false, true_and, and_true, reduceIte, nZ0, nZ1]
                  refine ⟨ja, by exact hj, hja, ?_⟩
                  refine ⟨by (first | omega | with_reducible assumption | (unfold rng; omega) | (unfold rng; (repeat' split) <;> omega) | grind), ?_⟩
                  unfold w_X16_takeRow_279
                  try simp only [forall_eq, rII, rIJ, rIP, rJJ, rJI, rJP, rPP, rPI, rPJ, g1, g2, g3, g4, g5, g6, g7, g8, Nat.reduceEqDiff, Nat.reduceAdd, false_and, and_false, true_and, and_true, reduceIte, nZ0, nZ1]
                  have q13 := rσ.2.2.1 ja 11 ((gI σ (ra 38) v1.toNat).toNat); simp only [rgJ] at q13
                  refine ⟨by (first | omega | with_reducible assumption | (unfold rng; omega) | (unfold rng; (repeat' split) <;> omega) | grind), ?_⟩
                  refine s_X16_record (b9 := (ra 81)) (n9 := 8) g rσ rfl (Or.inl ⟨81, rfl, by decide⟩) (by with_reducible assumption) (by (try simp only [rII, rIJ, rIP, rJJ, rJI, rJP, rPP, rPI, rPJ, g1, g2, g3, g4, g5, g6, g7, g8, Nat.reduceEqDiff, Nat.reduceAdd, false_and, and_false, true_and, and_true, reduceIte, nZ0, nZ1]) <;> (first | omega | with_reducible assumption | (unfold rng; omega) | (unfold rng; (repeat' split) <;> omega) | grind)) (by (try simp only [rII, rIJ, rIP, rJJ, rJI, rJP, rPP, rPI, rPJ, g1, g2, g3, g4, g5, g6, g7, g8, Nat.reduceEqDiff, Nat.reduceAdd, false_and, and_false, true_and, and_true, reduceIte, nZ0, nZ1]) <;> (first | omega | with_reducible assumption | (unfold rng; omega) | (unfold rng; (repeat' split) <;> omega) | grind)) h3 (by (try simp only [rII, rIJ, rIP, rJJ, rJI, rJP, rPP, rPI, rPJ, g1, g2, g3, g4, g5, g6, g7, g8, Nat.reduceEqDiff, Nat.reduceAdd, false_and, and_false, true_and, and_true, reduceIte, nZ0, nZ1]) <;> (first | omega | with_reducible assumption | (unfold rng; omega) | (unfold rng; (repeat' split) <;> omega) | grind)) (by (try simp only [rII, rIJ, rIP, rJJ, rJI, rJP, rPP, rPI, rPJ, g1, g2, g3, g4, g5, g6, g7, g8, Nat.reduceEqDiff, Nat.reduceAdd, false_and, and_false, true_and, and_true, reduceIte, nZ0, nZ1]) <;> (first | omega | with_reducible assumption | (unfold rng; omega) | (unfold rng; (repeat' split) <;> omega) | grind)) (by (try simp only [rII, rIJ, rIP, rJJ, rJI, rJP, rPP, rPI, rPJ, g1, g2, g3, g4, g5, g6, g7, g8, Nat.reduceEqDiff, Nat.reduceAdd, false_and, and_false, true_and, and_true, reduceIte, nZ0, nZ1]) <;> (first | omega | with_reducible assumption | (unfold rng; omega) | (unfold rng; (repeat' split) <;> omega) | grind)) (fun σ76 r77 rσ76 fc p14 => ?_) (fun σx E rx fx px => hX _ _ rx (Fr.tr fσ (Fr.mor (fx) (by decide) (by decide))) (by obtain ⟨e1, e2⟩ := px; subst e2; exact ⟨e1, t9, r9, e9⟩))
                  have fσ76 : Fr ra jx rm [20, 26, 42, 46, 47, 48, 49, 60, 61, 62, 63, 64, 65, 68, 69, 70, 71, 72, 73, 74, 75, 76, 77, 78, 82, 83, 84, 85, 86, 87, 88, 89] [21, 27, 66, 67, 79, 80, 90, 91] σ σ76 := Fr.tr fσ (Fr.mor (fc) (by decide) (by decide))
                  have t9 := ThE.fr t9 fc (by decide) (by decide)
                  have e9 := HeE.fr e9 fc (by decide) (by decide)
                  have me8 := MtI.more hm0 fc (by decide) h1 p14.2.2.2.1 p14.2.2.2.2.1 p14.2.2.2.2.2 (fun a ha => (hr0.2.2.1 a (by omega)).1) (fun q w => by first | omega | (exfalso; (try simp only [rII, rIJ, rIP, rJJ, rJI, rJP, rPP, rPI, rPJ, g1, g2, g3, g4, g5, g6, g7, g8, Nat.reduceEqDiff, Nat.reduceAdd, false_and, and_false, true_and, and_true, reduceIte, nZ0, nZ1] at q) <;> omega))
                  have r9 : RecE ra jx rm ja σ76 := ⟨_, _, p14.1, me8⟩
                  have eσ76_38 := fσ76.1 38 (by decide)
                  have eσ76_81 := fσ76.1 81 (by decide)
                  have jσ76 := fσ76.2.2.1
                  have pσ76 := fσ76.2.2.2
                  try simp only [forall_eq, rII, rIJ, rIP, rJJ, rJI, rJP, rPP, rPI, rPJ, g1, g2, g3, g4, g5, g6, g7, g8, Nat.reduceEqDiff, Nat.reduceAdd, false_and, and_false, true_and, and_true, reduceIte, nZ0, nZ1, eσ76_38.1, eσ76_38.2, eσ76_81.1, eσ76_81.2, fun a k => (jσ76 a k).1, fun a k => (jσ76 a k).2, pσ76]
                  unfold w_X16_takeRow_452
                  try simp only [forall_eq, rII, rIJ, rIP, rJJ, rJI, rJP, rPP, rPI, rPJ, g1, g2, g3, g4, g5, g6, g7, g8, Nat.reduceEqDiff, Nat.reduceAdd, false_and, and_false, true_and, and_true, reduceIte, nZ0, nZ1, eσ76_38.1, eσ76_38.2, eσ76_81.1, eσ76_81.2, fun a k => (jσ76 a k).1, fun a k => (jσ76 a k).2, pσ76]
                  refine hQ _ _ ?_ ?_ ?_
                  · exact rσ76
                  · exact fσ76
                  · exact ⟨ThE.fr (jx := jx) (K := [42]) (S := []) t9 (by repeat (first | exact Fr.rf | assumption | refine Fr.aJ g ?_ (by decide) | refine Fr.aI g ?_ (by decide) | refine Fr.sI g ?_ (by decide) | refine Fr.sJ g ?_ (by decide))) (by decide) (by decide), RecE.fr (K := [42]) (S := []) r9 (by repeat (first | exact Fr.rf | assumption | refine Fr.aJ g ?_ (by decide) | refine Fr.aI g ?_ (by decide) | refine Fr.sI g ?_ (by decide) | refine Fr.sJ g ?_ (by decide))) (by decide) (by decide), HeE.fr (jx := jx) (K := [42]) (S := []) e9 (by repeat (first | exact Fr.rf | assumption | refine Fr.aJ g ?_ (by decide) | refine Fr.aI g ?_ (by decide) | refine Fr.sI g ?_ (by decide) | refine Fr.sJ g ?_ (by decide))) (by decide) (by decide)⟩
                · rw [if_neg hc47_6]
                  by_cases hc47_7 : (gI σ (jx ja 2) (gI σ (ra 38) v1.toNat).toNat) = 8
                  · rw [if_pos hc47_7]
                    unfold w_X16_takeRow_296
                    try simp only [forall_eq, rII, rIJ, rIP, rJJ, rJI, rJP, rPP, rPI, rPJ, g1, g2, g3, g4, g5, g6, g7, g8, Nat.reduceEqDiff, Nat.reduceAdd, false_and, and_false, true_and, and_true, reduceIte, nZ0, nZ1]
                    have q15 := rσ.2.2.1 ja 12 ((gI σ (ra 38) v1.toNat).toNat); simp only [rgJ] at q15
                    have L299 : ∀ (fu299 : Nat) (τ299 : Sg) (v10 : Int), Rg ra jx rm τ299 → Fr ra jx rm [20, 26, 42, 46, 47, 48, 49, 60, 61, 62, 63, 64, 65, 68, 69, 70, 71, 72, 73, 74, 75, 76, 77, 78, 82, 83, 84, 85, 86, 87, 88, 89] [21, 27, 66, 67, 79, 80, 90, 91] σ τ299 → ((ThE ra rm τ299 ∧ RecE ra jx rm ja τ299 ∧ HeE ra rm τ299) ∧ 0 ≤ v10 ∧ v10 ≤ (gI σ (jx ja 12) (gI σ (ra 38) v1.toNat).toNat)) → (((gI σ (jx ja 12) (gI σ (ra 38) v1.toNat).toNat) - v10).toNat) < fu299 → wl_X16_takeRow_299 ra jx rm Q X fu299 τ299 v1 v3 v5 (gI σ (ra 38) v1.toNat) v10 := by
                      intro fu299
                      induction fu299 with
                      | zero => intro τ299 _ _ _ _ h9; omega
                      | succ fu299 ih299 =>
                        intro τ299 v10 rτ299 fτ299 hi299 hm299
                        unfold wl_X16_takeRow_299
                        have eτ299_38 := fτ299.1 38 (by decide)
                        have eτ299_81 := fτ299.1 81 (by decide)
                        have jτ299 := fτ299.2.2.1
                        have pτ299 := fτ299.2.2.2
                        unfold w_X16_takeRow_299
                        try simp only [forall_eq, rII, rIJ, rIP, rJJ, rJI, rJP, rPP, rPI, rPJ, g1, g2, g3, g4, g5, g6, g7, g8, Nat.reduceEqDiff, Nat.reduceAdd, false_and, and_false, true_and, and_true, reduceIte, nZ0, nZ1, eτ299_38.1, eτ299_38.2, eτ299_81.1, eτ299_81.2, fun a k => (jτ299 a k).1, fun a k => (jτ299 a k).2, pτ299]
                        obtain ⟨⟨t9, r9, e9⟩, k1, k2⟩ := hi299
                        obtain ⟨own0, ps0, hr0, hm0⟩ := id r9
                        refine ⟨ja, by exact hj, hja, ?_⟩
                        refine ⟨by (first | omega | with_reducible assumption | (unfold rng; omega) | (unfold rng; (repeat' split) <;> omega) | grind), ?_⟩
                        split
                        · rename_i hc311
                          skip
                          unfold w_X16_takeRow_369
                          try simp only [forall_eq, rII, rIJ, rIP, rJJ, rJI, rJP, rPP, rPI, rPJ, g1, g2, g3, g4, g5, g6, g7, g8, Nat.reduceEqDiff, Nat.reduceAdd, false_and, and_false, true_and, and_true, reduceIte, nZ0, nZ1, eτ299_38.1, eτ299_38.2, eτ299_81.1, eτ299_81.2, fun a k => (jτ299 a k).1, fun a k => (jτ299 a k).2, pτ299]
                          refine ⟨ja, by exact hj, hja, ?_⟩
                          refine ⟨by (first | omega | with_reducible assumption | (unfold rng; omega) | (unfold rng; (repeat' split) <;> omega) | grind), ?_⟩
                          have q16 := rσ.2.2.1 ja 10 ((gI σ (ra 38) v1.toNat).toNat); simp only [rgJ] at q16
                          refine ⟨by (first | omega | with_reducible assumption | (unfold rng; omega) | (unfold rng; (repeat' split) <;> omega) | grind), ?_⟩
                          refine s_X16_record (b9 := (ra 81)) (n9 := 8) g rτ299 rfl (Or.inl ⟨81, rfl, by decide⟩) (by with_reducible assumption) (by (try simp only [rII, rIJ, rIP, rJJ, rJI, rJP, rPP, rPI, rPJ, g1, g2, g3, g4, g5, g6, g7, g8, Nat.reduceEqDiff, Nat.reduceAdd, false_and, and_false, true_and, and_true, reduceIte, nZ0, nZ1, eτ299_38.1, eτ299_38.2, eτ299_81.1, eτ299_81.2, fun a k => (jτ299 a k).1, fun a k => (jτ299 a k).2, pτ299]) <;> (first | omega | with_reducible assumption | (unfold rng; omega) | (unfold rng; (repeat' split) <;> omega) | grind)) (by (try simp only [rII, rIJ, rIP, rJJ, rJI, rJP, rPP, rPI, rPJ, g1, g2, g3, g4, g5, g6, g7, g8, Nat.reduceEqDiff, Nat.reduceAdd, false_and, and_false, true_and, and_true, reduceIte, nZ0, nZ1, eτ299_38.1, eτ299_38.2, eτ299_81.1, eτ299_81.2, fun a k => (jτ299 a k).1, fun a k => (jτ299 a k).2, pτ299]) <;> (first | omega | with_reducible assumption | (unfold rng; omega) | (unfold rng; (repeat' split) <;> omega) | grind)) h3 (by (try simp only [rII, rIJ, rIP, rJJ, rJI, rJP, rPP, rPI, rPJ, g1, g2, g3, g4, g5, g6, g7, g8, Nat.reduceEqDiff, Nat.reduceAdd, false_and, and_false, true_and, and_true, reduceIte, nZ0, nZ1, eτ299_38.1, eτ299_38.2, eτ299_81.1, eτ299_81.2, fun a k => (jτ299 a k).1, fun a k => (jτ299 a k).2, pτ299]) <;> (first | omega | with_reducible assumption | (unfold rng; omega) | (unfold rng; (repeat' split) <;> omega) | grind)) (by (try simp only [rII, rIJ, rIP, rJJ, rJI, rJP, rPP, rPI, rPJ, g1, g2, g3, g4, g5, g6, g7, g8, Nat.reduceEqDiff, Nat.reduceAdd, false_and, and_false, true_and, and_true, reduceIte, nZ0, nZ1, eτ299_38.1, eτ299_38.2, eτ299_81.1, eτ299_81.2, fun a k => (jτ299 a k).1, fun a k => (jτ299 a k).2, pτ299]) <;> (first | omega | with_reducible assumption | (unfold rng; omega) | (unfold rng; (repeat' split) <;> omega) | grind)) (by (try simp only [rII, rIJ, rIP, rJJ, rJI, rJP, rPP, rPI, rPJ, g1, g2, g3, g4, g5, g6, g7, g8, Nat.reduceEqDiff, Nat.reduceAdd, false_and, and_false, true_and, and_true, reduceIte, nZ0, nZ1, eτ299_38.1, eτ299_38.2, eτ299_81.1, eτ299_81.2, fun a k => (jτ299 a k).1, fun a k => (jτ299 a k).2, pτ299]) <;> (first | omega | with_reducible assumption | (unfold rng; omega) | (unfold rng; (repeat' split) <;> omega) | grind)) (fun σ80 r81 rσ80 fc p17 => ?_) (fun σx E rx fx px => hX _ _ rx (Fr.tr fτ299 (Fr.mor (fx) (by decide) (by decide))) (by obtain ⟨e1, e2⟩ := px; subst e2; exact ⟨e1, t9, r9, e9⟩))
                          have fσ80 : Fr ra jx rm [20, 26, 42, 46, 47, 48, 49, 60, 61, 62, 63, 64, 65, 68, 69, 70, 71, 72, 73, 74, 75, 76, 77, 78, 82, 83, 84, 85, 86, 87, 88, 89] [21, 27, 66, 67, 79, 80, 90, 91] σ σ80 := Fr.tr fτ299 (Fr.mor (fc) (by decide) (by decide))
                          have t9 := ThE.fr t9 fc (by decide) (by decide)
                          have e9 := HeE.fr e9 fc (by decide) (by decide)
                          have me8 := MtI.more hm0 fc (by decide) h1 p17.2.2.2.1 p17.2.2.2.2.1 p17.2.2.2.2.2 (fun a ha => (hr0.2.2.1 a (by omega)).1) (fun q w => by first | omega | (exfalso; (try simp only [rII, rIJ, rIP, rJJ, rJI, rJP, rPP, rPI, rPJ, g1, g2, g3, g4, g5, g6, g7, g8, Nat.reduceEqDiff, Nat.reduceAdd, false_and, and_false, true_and, and_true, reduceIte, nZ0, nZ1, eτ299_38.1, eτ299_38.2, eτ299_81.1, eτ299_81.2, fun a k => (jτ299 a k).1, fun a k => (jτ299 a k).2, pτ299] at q) <;> omega))
                          have r9 : RecE ra jx rm ja σ80 := ⟨_, _, p17.1, me8⟩
                          have eσ80_38 := fσ80.1 38 (by decide)
                          have eσ80_81 := fσ80.1 81 (by decide)
                          have jσ80 := fσ80.2.2.1
                          have pσ80 := fσ80.2.2.2
                          try simp only [forall_eq, rII, rIJ, rIP, rJJ, rJI, rJP, rPP, rPI, rPJ, g1, g2, g3, g4, g5, g6, g7, g8, Nat.reduceEqDiff, Nat.reduceAdd, false_and, and_false, true_and, and_true, reduceIte, nZ0, nZ1, eσ80_38.1, eσ80_38.2, eσ80_81.1, eσ80_81.2, fun a k => (jσ80 a k).1, fun a k => (jσ80 a k).2, pσ80]
                          unfold w_X16_takeRow_452
                          try simp only [forall_eq, rII, rIJ, rIP, rJJ, rJI, rJP, rPP, rPI, rPJ, g1, g2, g3, g4, g5, g6, g7, g8, Nat.reduceEqDiff, Nat.reduceAdd, false_and, and_false, true_and, and_true, reduceIte, nZ0, nZ1, eσ80_38.1, eσ80_38.2, eσ80_81.1, eσ80_81.2, fun a k => (jσ80 a k).1, fun a k => (jσ80 a k).2, pσ80]
                          refine hQ _ _ ?_ ?_ ?_
                          · exact rσ80
                          · exact fσ80
                          · exact ⟨ThE.fr (jx := jx) (K := [42]) (S := []) t9 (by repeat (first | exact Fr.rf | assumption | refine Fr.aJ g ?_ (by decide) | refine Fr.aI g ?_ (by decide) | refine Fr.sI g ?_ (by decide) | refine Fr.sJ g ?_ (by decide))) (by decide) (by decide), RecE.fr (K := [42]) (S := []) r9 (by repeat (first | exact Fr.rf | assumption | refine Fr.aJ g ?_ (by decide) | refine Fr.aI g ?_ (by decide) | refine Fr.sI g ?_ (by decide) | refine Fr.sJ g ?_ (by decide))) (by decide) (by decide), HeE.fr (jx := jx) (K := [42]) (S := []) e9 (by repeat (first | exact Fr.rf | assumption | refine Fr.aJ g ?_ (by decide) | refine Fr.aI g ?_ (by decide) | refine Fr.sI g ?_ (by decide) | refine Fr.sJ g ?_ (by decide))) (by decide) (by decide)⟩
                        · rename_i hc311
                          skip
                          unfold w_X16_takeRow_314
                          try simp only [forall_eq, rII, rIJ, rIP, rJJ, rJI, rJP, rPP, rPI, rPJ, g1, g2, g3, g4, g5, g6, g7, g8, Nat.reduceEqDiff, Nat.reduceAdd, false_and, and_false, true_and, and_true, reduceIte, nZ0, nZ1, eτ299_38.1, eτ299_38.2, eτ299_81.1, eτ299_81.2, fun a k => (jτ299 a k).1, fun a k => (jτ299 a k).2, pτ299]
                          refine ⟨ja, by exact hj, hja, ?_⟩
                          refine ⟨by (first | omega | with_reducible assumption | (unfold rng; omega) | (unfold rng; (repeat' split) <;> omega) | grind), ?_⟩
                          refine ⟨by (first | omega | with_reducible assumption | (unfold rng; omega) | (unfold rng; (repeat' split) <;> omega) | grind), ?_⟩
                          refine ⟨by (first | omega | with_reducible assumption | (unfold rng; omega) | (unfold rng; (repeat' split) <;> omega) | grind), ?_⟩
                          have q18 := rσ.2.2.1 ja 13 (((8 * (gI σ (ra 38) v1.toNat)) + v10).toNat); simp only [rgJ] at q18
                          refine s_X16_worth (b5 := (ra 81)) (n5 := 8) g rτ299 rfl (Or.inl ⟨81, rfl, by decide⟩) (by first | exact hj | (rw [fτ299.2.2.2]; exact hj)) hja (by (try simp only [rII, rIJ, rIP, rJJ, rJI, rJP, rPP, rPI, rPJ, g1, g2, g3, g4, g5, g6, g7, g8, Nat.reduceEqDiff, Nat.reduceAdd, false_and, and_false, true_and, and_true, reduceIte, nZ0, nZ1, eτ299_38.1, eτ299_38.2, eτ299_81.1, eτ299_81.2, fun a k => (jτ299 a k).1, fun a k => (jτ299 a k).2, pτ299]) <;> first | exact PO.fr ((o4 (by omega)).2 v10 (by omega) (by omega)) hja fτ299 (by decide) | (have w8 := (o4 (by omega)).2 0 (by omega) (by omega); rw [show 8 * (gI σ (ra 38) v1.toNat) + 0 = 8 * (gI σ (ra 38) v1.toNat) by omega] at w8; exact PO.fr w8 hja fτ299 (by decide))) (by (try simp only [rII, rIJ, rIP, rJJ, rJI, rJP, rPP, rPI, rPJ, g1, g2, g3, g4, g5, g6, g7, g8, Nat.reduceEqDiff, Nat.reduceAdd, false_and, and_false, true_and, and_true, reduceIte, nZ0, nZ1, eτ299_38.1, eτ299_38.2, eτ299_81.1, eτ299_81.2, fun a k => (jτ299 a k).1, fun a k => (jτ299 a k).2, pτ299]) <;> (first | omega | with_reducible assumption | (unfold rng; omega) | (unfold rng; (repeat' split) <;> omega) | grind)) (by (try simp only [rII, rIJ, rIP, rJJ, rJI, rJP, rPP, rPI, rPJ, g1, g2, g3, g4, g5, g6, g7, g8, Nat.reduceEqDiff, Nat.reduceAdd, false_and, and_false, true_and, and_true, reduceIte, nZ0, nZ1, eτ299_38.1, eτ299_38.2, eτ299_81.1, eτ299_81.2, fun a k => (jτ299 a k).1, fun a k => (jτ299 a k).2, pτ299]) <;> (first | omega | with_reducible assumption | (unfold rng; omega) | (unfold rng; (repeat' split) <;> omega) | grind)) (fun σ83 r84 rσ83 fc p19 => ?_)
                          have fσ83 : Fr ra jx rm [20, 26, 42, 46, 47, 48, 49, 60, 61, 62, 63, 64, 65, 68, 69, 70, 71, 72, 73, 74, 75, 76, 77, 78, 82, 83, 84, 85, 86, 87, 88, 89] [21, 27, 66, 67, 79, 80, 90, 91] σ σ83 := Fr.tr fτ299 (Fr.mor (fc) (by decide) (by decide))
                          have t9 := ThE.fr t9 fc (by decide) (by decide)
                          have r9 := RecE.fr r9 fc (by decide) (by decide)
                          have e9 := HeE.fr e9 fc (by decide) (by decide)
                          have eσ83_38 := fσ83.1 38 (by decide)
                          have eσ83_81 := fσ83.1 81 (by decide)
                          have jσ83 := fσ83.2.2.1
                          have pσ83 := fσ83.2.2.2
                          try simp only [forall_eq, rII, rIJ, rIP, rJJ, rJI, rJP, rPP, rPI, rPJ, g1, g2, g3, g4, g5, g6, g7, g8, Nat.reduceEqDiff, Nat.reduceAdd, false_and, and_false, true_and, and_true, reduceIte, nZ0, nZ1, eσ83_38.1, eσ83_38.2, eσ83_81.1, eσ83_81.2, fun a k => (jσ83 a k).1, fun a k => (jσ83 a k).2, pσ83]
                          have q20 := rσ83.2.1 21; simp only [rgS] at q20
                          split
                          · rename_i hc349
                            skip
                            unfold w_X16_takeRow_363
                            try simp only [forall_eq, rII, rIJ, rIP, rJJ, rJI, rJP, rPP, rPI, rPJ, g1, g2, g3, g4, g5, g6, g7, g8, Nat.reduceEqDiff, Nat.reduceAdd, false_and, and_false, true_and, and_true, reduceIte, nZ0, nZ1, eσ83_38.1, eσ83_38.2, eσ83_81.1, eσ83_81.2, fun a k => (jσ83 a k).1, fun a k => (jσ83 a k).2, pσ83]
                            refine ⟨by (first | omega | with_reducible assumption | (unfold rng; omega) | (unfold rng; (repeat' split) <;> omega) | grind), ?_⟩
                            refine ih299 _ _ ?_ ?_ ?_ ?_
                            · exact rσ83
                            · exact fσ83
                            · first | exact ⟨⟨t9, r9, e9⟩, by omega, by omega⟩
                            · (try simp only [rII, rIJ, rIP, rJJ, rJI, rJP, rPP, rPI, rPJ, g1, g2, g3, g4, g5, g6, g7, g8, Nat.reduceEqDiff, Nat.reduceAdd, false_and, and_false, true_and, and_true, reduceIte, nZ0, nZ1, eσ83_38.1, eσ83_38.2, eσ83_81.1, eσ83_81.2, fun a k => (jσ83 a k).1, fun a k => (jσ83 a k).2, pσ83]) <;> (first | omega | with_reducible assumption | (unfold rng; omega) | (unfold rng; (repeat' split) <;> omega) | grind)
                          · rename_i hc349
                            skip
                            unfold w_X16_takeRow_352
                            try simp only [forall_eq, rII, rIJ, rIP, rJJ, rJI, rJP, rPP, rPI, rPJ, g1, g2, g3, g4, g5, g6, g7, g8, Nat.reduceEqDiff, Nat.reduceAdd, false_and, and_false, true_and, and_true, reduceIte, nZ0, nZ1, eσ83_38.1, eσ83_38.2, eσ83_81.1, eσ83_81.2, fun a k => (jσ83 a k).1, fun a k => (jσ83 a k).2, pσ83]
                            refine ⟨by (first | omega | with_reducible assumption | (unfold rng; omega) | (unfold rng; (repeat' split) <;> omega) | grind), ?_⟩
                            refine ⟨by (first | omega | with_reducible assumption | (unfold rng; omega) | (unfold rng; (repeat' split) <;> omega) | grind), ?_⟩
                            have q21 := rσ83.1 42 (v1.toNat); simp only [rgT] at q21
                            refine hQ _ _ ?_ ?_ ?_
                            · refine Rg.aI g ?_ (by simp only [rgT]; first | with_reducible exact nZ_rng _ | with_reducible exact nB_rng _ | with_reducible exact wr_rng _ | with_reducible exact i32any _ | (first | omega | with_reducible assumption | (unfold rng; omega) | (unfold rng; (repeat' split) <;> omega) | grind)); exact rσ83
                            · refine Fr.aI g ?_ (by decide); exact fσ83
                            · exact ⟨ThE.fr (jx := jx) (K := [42]) (S := []) t9 (by repeat (first | exact Fr.rf | assumption | refine Fr.aJ g ?_ (by decide) | refine Fr.aI g ?_ (by decide) | refine Fr.sI g ?_ (by decide) | refine Fr.sJ g ?_ (by decide))) (by decide) (by decide), RecE.fr (K := [42]) (S := []) r9 (by repeat (first | exact Fr.rf | assumption | refine Fr.aJ g ?_ (by decide) | refine Fr.aI g ?_ (by decide) | refine Fr.sI g ?_ (by decide) | refine Fr.sJ g ?_ (by decide))) (by decide) (by decide), HeE.fr (jx := jx) (K := [42]) (S := []) e9 (by repeat (first | exact Fr.rf | assumption | refine Fr.aJ g ?_ (by decide) | refine Fr.aI g ?_ (by decide) | refine Fr.sI g ?_ (by decide) | refine Fr.sJ g ?_ (by decide))) (by decide) (by decide)⟩
                    refine ⟨_, L299 _ _ _ ?_ ?_ ?_ (Nat.lt_succ_self _)⟩
                    · exact rσ
                    · exact fσ
                    · first | exact ⟨⟨t9, r9, e9⟩, by omega, by omega⟩
                  · rw [if_neg hc47_7]
                    by_cases hc47_10 : (gI σ (jx ja 2) (gI σ (ra 38) v1.toNat).toNat) = 11
                    · rw [if_pos hc47_10]
                      unfold w_X16_takeRow_403
                      try simp only [forall_eq, rII, rIJ, rIP, rJJ, rJI, rJP, rPP, rPI, rPJ, g1, g2, g3, g4, g5, g6, g7, g8, Nat.reduceEqDiff, Nat.reduceAdd, false_and, and_false, true_and, and_true, reduceIte, nZ0, nZ1]
                      refine s_X16_outputOf g rσ (by first | exact hj | (rw [fσ.2.2.2]; exact hj)) hja (by (try simp only [rII, rIJ, rIP, rJJ, rJI, rJP, rPP, rPI, rPJ, g1, g2, g3, g4, g5, g6, g7, g8, Nat.reduceEqDiff, Nat.reduceAdd, false_and, and_false, true_and, and_true, reduceIte, nZ0, nZ1]) <;> (first | omega | with_reducible assumption | (unfold rng; omega) | (unfold rng; (repeat' split) <;> omega) | grind)) (fun r87 p22 => ?_)
                      try simp only [forall_eq, rII, rIJ, rIP, rJJ, rJI, rJP, rPP, rPI, rPJ, g1, g2, g3, g4, g5, g6, g7, g8, Nat.reduceEqDiff, Nat.reduceAdd, false_and, and_false, true_and, and_true, reduceIte, nZ0, nZ1]
                      have m9 := cO_mono (jx := jx) (ja := ja) (σ := σ) (n := (gI σ (ra 38) v1.toNat) + 1) (m := gI σ ja 0) (by omega) (by omega)
                      have c9 := cO_succ (jx := jx) (ja := ja) (σ := σ) (n := (gI σ (ra 38) v1.toNat)) (by omega)
                      rw [if_pos (by assumption)] at c9
                      have hj9 := hjo.1
                      have p9 := p22
                      have q23 := rσ.2.2.1 ja 5 ((gI σ (ra 38) v1.toNat).toNat); simp only [rgJ] at q23
                      refine s_X16_pend g rσ (by exact e9) (by (try simp only [rII, rIJ, rIP, rJJ, rJI, rJP, rPP, rPI, rPJ, g1, g2, g3, g4, g5, g6, g7, g8, Nat.reduceEqDiff, Nat.reduceAdd, false_and, and_false, true_and, and_true, reduceIte, nZ0, nZ1]) <;> (first | omega | with_reducible assumption | (unfold rng; omega) | (unfold rng; (repeat' split) <;> omega) | grind)) h3 (by (try simp only [rII, rIJ, rIP, rJJ, rJI, rJP, rPP, rPI, rPJ, g1, g2, g3, g4, g5, g6, g7, g8, Nat.reduceEqDiff, Nat.reduceAdd, false_and, and_false, true_and, and_true, reduceIte, nZ0, nZ1]) <;> (first | omega | with_reducible assumption | (unfold rng; omega) | (unfold rng; (repeat' split) <;> omega) | grind)) (fun σ88 _ rσ88 fc p24 => ?_) (fun σx E rx fx px => hX _ _ rx (Fr.tr fσ (Fr.mor (fx) (by decide) (by decide))) ⟨px.1, ThE.fr t9 fx (by decide) (by decide), RecE.fr r9 fx (by decide) (by decide), px.2⟩)
                      have fσ88 : Fr ra jx rm [20, 26, 42, 46, 47, 48, 49, 60, 61, 62, 63, 64, 65, 68, 69, 70, 71, 72, 73, 74, 75, 76, 77, 78, 82, 83, 84, 85, 86, 87, 88, 89] [21, 27, 66, 67, 79, 80, 90, 91] σ σ88 := Fr.tr fσ (Fr.mor (fc) (by decide) (by decide))
                      have t9 := ThE.fr t9 fc (by decide) (by decide)
                      have r9 := RecE.fr r9 fc (by decide) (by decide)
                      have e9 := p24
                      have eσ88_38 := fσ88.1 38 (by decide)
                      have eσ88_81 := fσ88.1 81 (by decide)
                      have jσ88 := fσ88.2.2.1
                      have pσ88 := fσ88.2.2.2
                      try simp only [forall_eq, rII, rIJ, rIP, rJJ, rJI, rJP, rPP, rPI, rPJ, g1, g2, g3, g4, g5, g6, g7, g8, Nat.reduceEqDiff, Nat.reduceAdd, false_and, and_false, true_and, and_true, reduceIte, nZ0, nZ1, eσ88_38.1, eσ88_38.2, eσ88_81.1, eσ88_81.2, fun a k => (jσ88 a k).1, fun a k => (jσ88 a k).2, pσ88]
                      unfold w_X16_takeRow_452
                      try simp only [forall_eq, rII, rIJ, rIP, rJJ, rJI, rJP, rPP, rPI, rPJ, g1, g2, g3, g4, g5, g6, g7, g8, Nat.reduceEqDiff, Nat.reduceAdd, false_and, and_false, true_and, and_true, reduceIte, nZ0, nZ1, eσ88_38.1, eσ88_38.2, eσ88_81.1, eσ88_81.2, fun a k => (jσ88 a k).1, fun a k => (jσ88 a k).2, pσ88]
                      refine hQ _ _ ?_ ?_ ?_
                      · exact rσ88
                      · exact fσ88
                      · exact ⟨ThE.fr (jx := jx) (K := [42]) (S := []) t9 (by repeat (first | exact Fr.rf | assumption | refine Fr.aJ g ?_ (by decide) | refine Fr.aI g ?_ (by decide) | refine Fr.sI g ?_ (by decide) | refine Fr.sJ g ?_ (by decide))) (by decide) (by decide), RecE.fr (K := [42]) (S := []) r9 (by repeat (first | exact Fr.rf | assumption | refine Fr.aJ g ?_ (by decide) | refine Fr.aI g ?_ (by decide) | refine Fr.sI g ?_ (by decide) | refine Fr.sJ g ?_ (by decide))) (by decide) (by decide), HeE.fr (jx := jx) (K := [42]) (S := []) e9 (by repeat (first | exact Fr.rf | assumption | refine Fr.aJ g ?_ (by decide) | refine Fr.aI g ?_ (by decide) | refine Fr.sI g ?_ (by decide) | refine Fr.sJ g ?_ (by decide))) (by decide) (by decide)⟩
                    · rw [if_neg hc47_10]
                      unfold w_X16_takeRow_421
                      try simp only [forall_eq, rII, rIJ, rIP, rJJ, rJI, rJP, rPP, rPI, rPJ, g1, g2, g3, g4, g5, g6, g7, g8, Nat.reduceEqDiff, Nat.reduceAdd, false_and, and_false, true_and, and_true, reduceIte, nZ0, nZ1]
                      refine ⟨ja, by exact hj, hja, ?_⟩
                      refine ⟨by (first | omega | with_reducible assumption | (unfold rng; omega) | (unfold rng; (repeat' split) <;> omega) | grind), ?_⟩
                      have q25 := rσ.2.2.1 ja 10 ((gI σ (ra 38) v1.toNat).toNat); simp only [rgJ] at q25
                      refine ⟨by (first | omega | with_reducible assumption | (unfold rng; omega) | (unfold rng; (repeat' split) <;> omega) | grind), ?_⟩
                      refine s_X16_record (b9 := (ra 81)) (n9 := 8) g rσ rfl (Or.inl ⟨81, rfl, by decide⟩) (by with_reducible assumption) (by (try simp only [rII, rIJ, rIP, rJJ, rJI, rJP, rPP, rPI, rPJ, g1, g2, g3, g4, g5, g6, g7, g8, Nat.reduceEqDiff, Nat.reduceAdd, false_and, and_false, true_and, and_true, reduceIte, nZ0, nZ1]) <;> (first | omega | with_reducible assumption | (unfold rng; omega) | (unfold rng; (repeat' split) <;> omega) | grind)) (by (try simp only [rII, rIJ, rIP, rJJ, rJI, rJP, rPP, rPI, rPJ, g1, g2, g3, g4, g5, g6, g7, g8, Nat.reduceEqDiff, Nat.reduceAdd, false_and, and_false, true_and, and_true, reduceIte, nZ0, nZ1]) <;> (first | omega | with_reducible assumption | (unfold rng; omega) | (unfold rng; (repeat' split) <;> omega) | grind)) h3 (by (try simp only [rII, rIJ, rIP, rJJ, rJI, rJP, rPP, rPI, rPJ, g1, g2, g3, g4, g5, g6, g7, g8, Nat.reduceEqDiff, Nat.reduceAdd, false_and, and_false, true_and, and_true, reduceIte, nZ0, nZ1]) <;> (first | omega | with_reducible assumption | (unfold rng; omega) | (unfold rng; (repeat' split) <;> omega) | grind)) (by (try simp only [rII, rIJ, rIP, rJJ, rJI, rJP, rPP, rPI, rPJ, g1, g2, g3, g4, g5, g6, g7, g8, Nat.reduceEqDiff, Nat.reduceAdd, false_and, and_false, true_and, and_true, reduceIte, nZ0, nZ1]) <;> (first | omega | with_reducible assumption | (unfold rng; omega) | (unfold rng; (repeat' split) <;> omega) | grind)) (by (try simp only [rII, rIJ, rIP, rJJ, rJI, rJP, rPP, rPI, rPJ, g1, g2, g3, g4, g5, g6, g7, g8, Nat.reduceEqDiff, Nat.reduceAdd, false_and, and_false, true_and, and_true, reduceIte, nZ0, nZ1]) <;> (first | omega | with_reducible assumption | (unfold rng; omega) | (unfold rng; (repeat' split) <;> omega) | grind)) (fun σ90 r91 rσ90 fc p26 => ?_) (fun σx E rx fx px => hX _ _ rx (Fr.tr fσ (Fr.mor (fx) (by decide) (by decide))) (by obtain ⟨e1, e2⟩ := px; subst e2; exact ⟨e1, t9, r9, e9⟩))
                      have fσ90 : Fr ra jx rm [20, 26, 42, 46, 47, 48, 49, 60, 61, 62, 63, 64, 65, 68, 69, 70, 71, 72, 73, 74, 75, 76, 77, 78, 82, 83, 84, 85, 86, 87, 88, 89] [21, 27, 66, 67, 79, 80, 90, 91] σ σ90 := Fr.tr fσ (Fr.mor (fc) (by decide) (by decide))
                      have t9 := ThE.fr t9 fc (by decide) (by decide)
                      have e9 := HeE.fr e9 fc (by decide) (by decide)
                      have me8 := MtI.more hm0 fc (by decide) h1 p26.2.2.2.1 p26.2.2.2.2.1 p26.2.2.2.2.2 (fun a ha => (hr0.2.2.1 a (by omega)).1) (fun q w => by first | omega | (exfalso; (try simp only [rII, rIJ, rIP, rJJ, rJI, rJP, rPP, rPI, rPJ, g1, g2, g3, g4, g5, g6, g7, g8, Nat.reduceEqDiff, Nat.reduceAdd, false_and, and_false, true_and, and_true, reduceIte, nZ0, nZ1] at q) <;> omega))
                      have r9 : RecE ra jx rm ja σ90 := ⟨_, _, p26.1, me8⟩
                      have eσ90_38 := fσ90.1 38 (by decide)
                      have eσ90_81 := fσ90.1 81 (by decide)
                      have jσ90 := fσ90.2.2.1
                      have pσ90 := fσ90.2.2.2
                      try simp only [forall_eq, rII, rIJ, rIP, rJJ, rJI, rJP, rPP, rPI, rPJ, g1, g2, g3, g4, g5, g6, g7, g8, Nat.reduceEqDiff, Nat.reduceAdd, false_and, and_false, true_and, and_true, reduceIte, nZ0, nZ1, eσ90_38.1, eσ90_38.2, eσ90_81.1, eσ90_81.2, fun a k => (jσ90 a k).1, fun a k => (jσ90 a k).2, pσ90]
                      unfold w_X16_takeRow_452
                      try simp only [forall_eq, rII, rIJ, rIP, rJJ, rJI, rJP, rPP, rPI, rPJ, g1, g2, g3, g4, g5, g6, g7, g8, Nat.reduceEqDiff, Nat.reduceAdd, false_and, and_false, true_and, and_true, reduceIte, nZ0, nZ1, eσ90_38.1, eσ90_38.2, eσ90_81.1, eσ90_81.2, fun a k => (jσ90 a k).1, fun a k => (jσ90 a k).2, pσ90]
                      refine hQ _ _ ?_ ?_ ?_
                      · exact rσ90
                      · exact fσ90
                      · exact ⟨ThE.fr (jx := jx) (K := [42]) (S := []) t9 (by repeat (first | exact Fr.rf | assumption | refine Fr.aJ g ?_ (by decide) | refine Fr.aI g ?_ (by decide) | refine Fr.sI g ?_ (by decide) | refine Fr.sJ g ?_ (by decide))) (by decide) (by decide), RecE.fr (K := [42]) (S := []) r9 (by repeat (first | exact Fr.rf | assumption | refine Fr.aJ g ?_ (by decide) | refine Fr.aI g ?_ (by decide) | refine Fr.sI g ?_ (by decide) | refine Fr.sJ g ?_ (by decide))) (by decide) (by decide), HeE.fr (jx := jx) (K := [42]) (S := []) e9 (by repeat (first | exact Fr.rf | assumption | refine Fr.aJ g ?_ (by decide) | refine Fr.aI g ?_ (by decide) | refine Fr.sI g ?_ (by decide) | refine Fr.sJ g ?_ (by decide))) (by decide) (by decide)⟩
  · rename_i hc9
    skip
    unfold w_X16_takeRow_12
    try simp only [forall_eq, rII, rIJ, rIP, rJJ, rJI, rJP, rPP, rPI, rPJ, g1, g2, g3, g4, g5, g6, g7, g8, Nat.reduceEqDiff, Nat.reduceAdd, false_and, and_false, true_and, and_true, reduceIte, nZ0, nZ1]
    refine ⟨ja, by exact hj, hja, ?_⟩
    have q27 := rσ.1 38 (v1.toNat); simp only [rgT] at q27
    refine ⟨by (first | omega | with_reducible assumption | (unfold rng; omega) | (unfold rng; (repeat' split) <;> omega) | grind), ?_⟩
    unfold w_X16_takeRow_35
    try simp only [forall_eq, rII, rIJ, rIP, rJJ, rJI, rJP, rPP, rPI, rPJ, g1, g2, g3, g4, g5, g6, g7, g8, Nat.reduceEqDiff, Nat.reduceAdd, false_and, and_false, true_and, and_true, reduceIte, nZ0, nZ1]
    refine ⟨ja, by exact hj, hja, ?_⟩
    refine ⟨by (first | omega | with_reducible assumption | (unfold rng; omega) | (unfold rng; (repeat' split) <;> omega) | grind), ?_⟩
    have q28 := rσ.2.2.1 ja 2 ((gI σ (ra 38) v1.toNat).toNat); simp only [rgJ] at q28
    by_cases hc47_0 : (gI σ (jx ja 2) (gI σ (ra 38) v1.toNat).toNat) = 1
    · rw [if_pos hc47_0]
      unfold w_X16_takeRow_104
      try simp only [forall_eq, rII, rIJ, rIP, rJJ, rJI, rJP, rPP, rPI, rPJ, g1, g2, g3, g4, g5, g6, g7, g8, Nat.reduceEqDiff, Nat.reduceAdd, false_and, and_false, true_and, and_true, reduceIte, nZ0, nZ1]
      refine ⟨ja, by exact hj, hja, ?_⟩
      refine ⟨by (first | omega | with_reducible assumption | (unfold rng; omega) | (unfold rng; (repeat' split) <;> omega) | grind), ?_⟩
      refine ⟨by (first | omega | with_reducible assumption | (unfold rng; omega) | (unfold rng; (repeat' split) <;> omega) | grind), ?_⟩
      have q29 := rσ.2.2.1 ja 13 ((8 * (gI σ (ra 38) v1.toNat)).toNat); simp only [rgJ] at q29
      refine s_X16_worth (b5 := (ra 81)) (n5 := 8) g rσ rfl (Or.inl ⟨81, rfl, by decide⟩) (by first | exact hj | (rw [fσ.2.2.2]; exact hj)) hja (by (try simp only [rII, rIJ, rIP, rJJ, rJI, rJP, rPP, rPI, rPJ, g1, g2, g3, g4, g5, g6, g7, g8, Nat.reduceEqDiff, Nat.reduceAdd, false_and, and_false, true_and, and_true, reduceIte, nZ0, nZ1]) <;> first | exact PO.fr ((o4 (by omega)).2 v10 (by omega) (by omega)) hja fσ (by decide) | (have w8 := (o4 (by omega)).2 0 (by omega) (by omega); rw [show 8 * (gI σ (ra 38) v1.toNat) + 0 = 8 * (gI σ (ra 38) v1.toNat) by omega] at w8; exact PO.fr w8 hja fσ (by decide))) (by (try simp only [rII, rIJ, rIP, rJJ, rJI, rJP, rPP, rPI, rPJ, g1, g2, g3, g4, g5, g6, g7, g8, Nat.reduceEqDiff, Nat.reduceAdd, false_and, and_false, true_and, and_true, reduceIte, nZ0, nZ1]) <;> (first | omega | with_reducible assumption | (unfold rng; omega) | (unfold rng; (repeat' split) <;> omega) | grind)) (by (try simp only [rII, rIJ, rIP, rJJ, rJI, rJP, rPP, rPI, rPJ, g1, g2, g3, g4, g5, g6, g7, g8, Nat.reduceEqDiff, Nat.reduceAdd, false_and, and_false, true_and, and_true, reduceIte, nZ0, nZ1]) <;> (first | omega | with_reducible assumption | (unfold rng; omega) | (unfold rng; (repeat' split) <;> omega) | grind)) (fun σ95 r96 rσ95 fc p30 => ?_)
      have fσ95 : Fr ra jx rm [20, 26, 42, 46, 47, 48, 49, 60, 61, 62, 63, 64, 65, 68, 69, 70, 71, 72, 73, 74, 75, 76, 77, 78, 82, 83, 84, 85, 86, 87, 88, 89] [21, 27, 66, 67, 79, 80, 90, 91] σ σ95 := Fr.tr fσ (Fr.mor (fc) (by decide) (by decide))
      have t9 := ThE.fr t9 fc (by decide) (by decide)
      have r9 := RecE.fr r9 fc (by decide) (by decide)
      have e9 := HeE.fr e9 fc (by decide) (by decide)
      have eσ95_38 := fσ95.1 38 (by decide)
      have eσ95_81 := fσ95.1 81 (by decide)
      have jσ95 := fσ95.2.2.1
      have pσ95 := fσ95.2.2.2
      try simp only [forall_eq, rII, rIJ, rIP, rJJ, rJI, rJP, rPP, rPI, rPJ, g1, g2, g3, g4, g5, g6, g7, g8, Nat.reduceEqDiff, Nat.reduceAdd, false_and, and_false, true_and, and_true, reduceIte, nZ0, nZ1, eσ95_38.1, eσ95_38.2, eσ95_81.1, eσ95_81.2, fun a k => (jσ95 a k).1, fun a k => (jσ95 a k).2, pσ95]
      have q31 := rσ95.2.1 21; simp only [rgS] at q31
      split
      · rename_i hc137
        skip
        unfold w_X16_takeRow_153
        try simp only [forall_eq, rII, rIJ, rIP, rJJ, rJI, rJP, rPP, rPI, rPJ, g1, g2, g3, g4, g5, g6, g7, g8, Nat.reduceEqDiff, Nat.reduceAdd, false_and, and_false, true_and, and_true, reduceIte, nZ0, nZ1, eσ95_38.1, eσ95_38.2, eσ95_81.1, eσ95_81.2, fun a k => (jσ95 a k).1, fun a k => (jσ95 a k).2, pσ95]
        split
        · rename_i hc157
          skip
          unfold w_X16_takeRow_452
          try simp only [forall_eq, rII, rIJ, rIP, rJJ, rJI, rJP, rPP, rPI, rPJ, g1, g2, g3, g4, g5, g6, g7, g8, Nat.reduceEqDiff, Nat.reduceAdd, false_and, and_false, true_and, and_true, reduceIte, nZ0, nZ1, eσ95_38.1, eσ95_38.2, eσ95_81.1, eσ95_81.2, fun a k => (jσ95 a k).1, fun a k => (jσ95 a k).2, pσ95]
          refine hQ _ _ ?_ ?_ ?_
          · exact rσ95
          · exact fσ95
          · exact ⟨ThE.fr (jx := jx) (K := [42]) (S := []) t9 (by repeat (first | exact Fr.rf | assumption | refine Fr.aJ g ?_ (by decide) | refine Fr.aI g ?_ (by decide) | refine Fr.sI g ?_ (by decide) | refine Fr.sJ g ?_ (by decide))) (by decide) (by decide), RecE.fr (K := [42]) (S := []) r9 (by repeat (first | exact Fr.rf | assumption | refine Fr.aJ g ?_ (by decide) | refine Fr.aI g ?_ (by decide) | refine Fr.sI g ?_ (by decide) | refine Fr.sJ g ?_ (by decide))) (by decide) (by decide), HeE.fr (jx := jx) (K := [42]) (S := []) e9 (by repeat (first | exact Fr.rf | assumption | refine Fr.aJ g ?_ (by decide) | refine Fr.aI g ?_ (by decide) | refine Fr.sI g ?_ (by decide) | refine Fr.sJ g ?_ (by decide))) (by decide) (by decide)⟩
        · rename_i hc157
          skip
          unfold w_X16_takeRow_160
          try simp only [forall_eq, rII, rIJ, rIP, rJJ, rJI, rJP, rPP, rPI, rPJ, g1, g2, g3, g4, g5, g6, g7, g8, Nat.reduceEqDiff, Nat.reduceAdd, false_and, and_false, true_and, and_true, reduceIte, nZ0, nZ1, eσ95_38.1, eσ95_38.2, eσ95_81.1, eσ95_81.2, fun a k => (jσ95 a k).1, fun a k => (jσ95 a k).2, pσ95]
          refine s_X16_emit (b4 := (ra 81)) (n4 := 8) g rσ95 (by first | exact hj | (rw [fσ95.2.2.2]; exact hj)) hja rfl (Or.inl ⟨81, rfl, by decide⟩) (by exact t9) (by (try simp only [rII, rIJ, rIP, rJJ, rJI, rJP, rPP, rPI, rPJ, g1, g2, g3, g4, g5, g6, g7, g8, Nat.reduceEqDiff, Nat.reduceAdd, false_and, and_false, true_and, and_true, reduceIte, nZ0, nZ1, eσ95_38.1, eσ95_38.2, eσ95_81.1, eσ95_81.2, fun a k => (jσ95 a k).1, fun a k => (jσ95 a k).2, pσ95]) <;> (first | omega | with_reducible assumption | (unfold rng; omega) | (unfold rng; (repeat' split) <;> omega) | grind)) h3 (by (try simp only [rII, rIJ, rIP, rJJ, rJI, rJP, rPP, rPI, rPJ, g1, g2, g3, g4, g5, g6, g7, g8, Nat.reduceEqDiff, Nat.reduceAdd, false_and, and_false, true_and, and_true, reduceIte, nZ0, nZ1, eσ95_38.1, eσ95_38.2, eσ95_81.1, eσ95_81.2, fun a k => (jσ95 a k).1, fun a k => (jσ95 a k).2, pσ95]) <;> (first | omega | with_reducible assumption | (unfold rng; omega) | (unfold rng; (repeat' split) <;> omega) | grind)) (by (try simp only [rII, rIJ, rIP, rJJ, rJI, rJP, rPP, rPI, rPJ, g1, g2, g3, g4, g5, g6, g7, g8, Nat.reduceEqDiff, Nat.reduceAdd, false_and, and_false, true_and, and_true, reduceIte, nZ0, nZ1, eσ95_38.1, eσ95_38.2, eσ95_81.1, eσ95_81.2, fun a k => (jσ95 a k).1, fun a k => (jσ95 a k).2, pσ95]) <;> (first | omega | with_reducible assumption | (unfold rng; omega) | (unfold rng; (repeat' split) <;> omega) | grind)) (by (try simp only [rII, rIJ, rIP, rJJ, rJI, rJP, rPP, rPI, rPJ, g1, g2, g3, g4, g5, g6, g7, g8, Nat.reduceEqDiff, Nat.reduceAdd, false_and, and_false, true_and, and_true, reduceIte, nZ0, nZ1, eσ95_38.1, eσ95_38.2, eσ95_81.1, eσ95_81.2, fun a k => (jσ95 a k).1, fun a k => (jσ95 a k).2, pσ95]) <;> (first | omega | with_reducible assumption | (unfold rng; omega) | (unfold rng; (repeat' split) <;> omega) | grind)) (by (try simp only [rII, rIJ, rIP, rJJ, rJI, rJP, rPP, rPI, rPJ, g1, g2, g3, g4, g5, g6, g7, g8, Nat.reduceEqDiff, Nat.reduceAdd, false_and, and_false, true_and, and_true, reduceIte, nZ0, nZ1, eσ95_38.1, eσ95_38.2, eσ95_81.1, eσ95_81.2, fun a k => (jσ95 a k).1, fun a k => (jσ95 a k).2, pσ95]) <;> first | exact hp | (rw [(fσ95.2.1 33 (by decide)).1]; exact hp)) (fun σ97 _ rσ97 fc p32 => ?_) (fun σx E rx fx px => hX _ _ rx (Fr.tr fσ95 (Fr.mor (fx) (by decide) (by decide))) ⟨px.1, px.2, RecE.fr r9 fx (by decide) (by decide), HeE.fr e9 fx (by decide) (by decide)⟩)
          have fσ97 : Fr ra jx rm [20, 26, 42, 46, 47, 48, 49, 60, 61, 62, 63, 64, 65, 68, 69, 70, 71, 72, 73, 74, 75, 76, 77, 78, 82, 83, 84, 85, 86, 87, 88, 89] [21, 27, 66, 67, 79, 80, 90, 91] σ σ97 := Fr.tr fσ95 (Fr.mor (fc) (by decide) (by decide))
          have fe9 := fc
          have r9 := RecE.fr r9 fe9 (by decide) (by decide)
          have e9 := HeE.fr e9 fe9 (by decide) (by decide)
          have t9 := p32
          have eσ97_38 := fσ97.1 38 (by decide)
          have eσ97_81 := fσ97.1 81 (by decide)
          have jσ97 := fσ97.2.2.1
          have pσ97 := fσ97.2.2.2
          try simp only [forall_eq, rII, rIJ, rIP, rJJ, rJI, rJP, rPP, rPI, rPJ, g1, g2, g3, g4, g5, g6, g7, g8, Nat.reduceEqDiff, Nat.reduceAdd, false_and, and_false, true_and, and_true, reduceIte, nZ0, nZ1, eσ97_38.1, eσ97_38.2, eσ97_81.1, eσ97_81.2, fun a k => (jσ97 a k).1, fun a k => (jσ97 a k).2, pσ97]
          unfold w_X16_takeRow_452
          try simp only [forall_eq, rII, rIJ, rIP, rJJ, rJI, rJP, rPP, rPI, rPJ, g1, g2, g3, g4, g5, g6, g7, g8, Nat.reduceEqDiff, Nat.reduceAdd, false_and, and_false, true_and, and_true, reduceIte, nZ0, nZ1, eσ97_38.1, eσ97_38.2, eσ97_81.1, eσ97_81.2, fun a k => (jσ97 a k).1, fun a k => (jσ97 a k).2, pσ97]
          refine hQ _ _ ?_ ?_ ?_
          · exact rσ97
          · exact fσ97
          · exact ⟨ThE.fr (jx := jx) (K := [42]) (S := []) t9 (by repeat (first | exact Fr.rf | assumption | refine Fr.aJ g ?_ (by decide) | refine Fr.aI g ?_ (by decide) | refine Fr.sI g ?_ (by decide) | refine Fr.sJ g ?_ (by decide))) (by decide) (by decide), RecE.fr (K := [42]) (S := []) r9 (by repeat (first | exact Fr.rf | assumption | refine Fr.aJ g ?_ (by decide) | refine Fr.aI g ?_ (by decide) | refine Fr.sI g ?_ (by decide) | refine Fr.sJ g ?_ (by decide))) (by decide) (by decide), HeE.fr (jx := jx) (K := [42]) (S := []) e9 (by repeat (first | exact Fr.rf | assumption | refine Fr.aJ g ?_ (by decide) | refine Fr.aI g ?_ (by decide) | refine Fr.sI g ?_ (by decide) | refine Fr.sJ g ?_ (by decide))) (by decide) (by decide)⟩
      · rename_i hc137
        skip
        unfold w_X16_takeRow_140
        try simp only [forall_eq, rII, rIJ, rIP, rJJ, rJI, rJP, rPP, rPI, rPJ, g1, g2, g3, g4, g5, g6, g7, g8, Nat.reduceEqDiff, Nat.reduceAdd, false_and, and_false, true_and, and_true, reduceIte, nZ0, nZ1, eσ95_38.1, eσ95_38.2, eσ95_81.1, eσ95_81.2, fun a k => (jσ95 a k).1, fun a k => (jσ95 a k).2, pσ95]
        refine ⟨by (first | omega | with_reducible assumption | (unfold rng; omega) | (unfold rng; (repeat' split) <;> omega) | grind), ?_⟩
        refine ⟨by (first | omega | with_reducible assumption | (unfold rng; omega) | (unfold rng; (repeat' split) <;> omega) | grind), ?_⟩
        have q33 := rσ95.1 42 (v1.toNat); simp only [rgT] at q33
        unfold w_X16_takeRow_452
        try simp only [forall_eq, rII, rIJ, rIP, rJJ, rJI, rJP, rPP, rPI, rPJ, g1, g2, g3, g4, g5, g6, g7, g8, Nat.reduceEqDiff, Nat.reduceAdd, false_and, and_false, true_and, and_true, reduceIte, nZ0, nZ1, eσ95_38.1, eσ95_38.2, eσ95_81.1, eσ95_81.2, fun a k => (jσ95 a k).1, fun a k => (jσ95 a k).2, pσ95]
        refine hQ _ _ ?_ ?_ ?_
        · refine Rg.aI g ?_ (by simp only [rgT]; first | with_reducible exact nZ_rng _ | with_reducible exact nB_rng _ | with_reducible exact wr_rng _ | with_reducible exact i32any _ | (first | omega | with_reducible assumption | (unfold rng; omega) | (unfold rng; (repeat' split) <;> omega) | grind)); exact rσ95
        · refine Fr.aI g ?_ (by decide); exact fσ95
        · exact ⟨ThE.fr (jx := jx) (K := [42]) (S := []) t9 (by repeat (first | exact Fr.rf | assumption | refine Fr.aJ g ?_ (by decide) | refine Fr.aI g ?_ (by decide) | refine Fr.sI g ?_ (by decide) | refine Fr.sJ g ?_ (by decide))) (by decide) (by decide), RecE.fr (K := [42]) (S := []) r9 (by repeat (first | exact Fr.rf | assumption | refine Fr.aJ g ?_ (by decide) | refine Fr.aI g ?_ (by decide) | refine Fr.sI g ?_ (by decide) | refine Fr.sJ g ?_ (by decide))) (by decide) (by decide), HeE.fr (jx := jx) (K := [42]) (S := []) e9 (by repeat (first | exact Fr.rf | assumption | refine Fr.aJ g ?_ (by decide) | refine Fr.aI g ?_ (by decide) | refine Fr.sI g ?_ (by decide) | refine Fr.sJ g ?_ (by decide))) (by decide) (by decide)⟩
    · rw [if_neg hc47_0]
      by_cases hc47_1 : (gI σ (jx ja 2) (gI σ (ra 38) v1.toNat).toNat) = 2
      · rw [if_pos hc47_1]
        unfold w_X16_takeRow_176
        try simp only [forall_eq, rII, rIJ, rIP, rJJ, rJI, rJP, rPP, rPI, rPJ, g1, g2, g3, g4, g5, g6, g7, g8, Nat.reduceEqDiff, Nat.reduceAdd, false_and, and_false, true_and, and_true, reduceIte, nZ0, nZ1]
        refine s_X16_takeMap g rσ (by first | exact hj | (rw [fσ.2.2.2]; exact hj)) hja (by exact t9) (by (try simp only [rII, rIJ, rIP, rJJ, rJI, rJP, rPP, rPI, rPJ, g1, g2, g3, g4, g5, g6, g7, g8, Nat.reduceEqDiff, Nat.reduceAdd, false_and, and_false, true_and, and_true, reduceIte, nZ0, nZ1]) <;> (first | omega | with_reducible assumption | (unfold rng; omega) | (unfold rng; (repeat' split) <;> omega) | grind)) (by (try simp only [rII, rIJ, rIP, rJJ, rJI, rJP, rPP, rPI, rPJ, g1, g2, g3, g4, g5, g6, g7, g8, Nat.reduceEqDiff, Nat.reduceAdd, false_and, and_false, true_and, and_true, reduceIte, nZ0, nZ1]) <;> (first | omega | with_reducible assumption | (unfold rng; omega) | (unfold rng; (repeat' split) <;> omega) | grind)) (by first | exact h3 | omega) (by (try simp only [rII, rIJ, rIP, rJJ, rJI, rJP, rPP, rPI, rPJ, g1, g2, g3, g4, g5, g6, g7, g8, Nat.reduceEqDiff, Nat.reduceAdd, false_and, and_false, true_and, and_true, reduceIte, nZ0, nZ1]) <;> (first | omega | with_reducible assumption | (unfold rng; omega) | (unfold rng; (repeat' split) <;> omega) | grind)) (by (try simp only [rII, rIJ, rIP, rJJ, rJI, rJP, rPP, rPI, rPJ, g1, g2, g3, g4, g5, g6, g7, g8, Nat.reduceEqDiff, Nat.reduceAdd, false_and, and_false, true_and, and_true, reduceIte, nZ0, nZ1]) <;> first | exact hp | (rw [(fσ.2.1 33 (by decide)).1]; exact hp)) (by exact (o4 (by omega)).2) (fun σ99 _ rσ99 fc p34 => ?_) (fun σx E rx fx px => hX _ _ rx (Fr.tr fσ (Fr.mor (fx) (by decide) (by decide))) ⟨px.1, px.2, RecE.fr r9 fx (by decide) (by decide), HeE.fr e9 fx (by decide) (by decide)⟩)
        have fσ99 : Fr ra jx rm [20, 26, 42, 46, 47, 48, 49, 60, 61, 62, 63, 64, 65, 68, 69, 70, 71, 72, 73, 74, 75, 76, 77, 78, 82, 83, 84, 85, 86, 87, 88, 89] [21, 27, 66, 67, 79, 80, 90, 91] σ σ99 := Fr.tr fσ (Fr.mor (fc) (by decide) (by decide))
        have r9 := RecE.fr r9 fc (by decide) (by decide)
        have e9 := HeE.fr e9 fc (by decide) (by decide)
        have t9 := p34
        have eσ99_38 := fσ99.1 38 (by decide)
        have eσ99_81 := fσ99.1 81 (by decide)
        have jσ99 := fσ99.2.2.1
        have pσ99 := fσ99.2.2.2
        try simp only [forall_eq, rII, rIJ, rIP, rJJ, rJI, rJP, rPP, rPI, rPJ, g1, g2, g3, g4, g5, g6, g7, g8, Nat.reduceEqDiff, Nat.reduceAdd, false_and, and_false, true_and, and_true, reduceIte, nZ0, nZ1, eσ99_38.1, eσ99_38.2, eσ99_81.1, eσ99_81.2, fun a k => (jσ99 a k).1, fun a k => (jσ99 a k).2, pσ99]
        unfold w_X16_takeRow_452
        try simp only [forall_eq, rII, rIJ, rIP, rJJ, rJI, rJP, rPP, rPI, rPJ, g1, g2, g3, g4, g5, g6, g7, g8, Nat.reduceEqDiff, Nat.reduceAdd, false_and, and_false, true_and, and_true, reduceIte, nZ0, nZ1, eσ99_38.1, eσ99_38.2, eσ99_81.1, eσ99_81.2, fun a k => (jσ99 a k).1, fun a k => (jσ99 a k).2, pσ99]
        refine hQ _ _ ?_ ?_ ?_
        · exact rσ99
        · exact fσ99
        · exact ⟨ThE.fr (jx := jx) (K := [42]) (S := []) t9 (by repeat (first | exact Fr.rf | assumption | refine Fr.aJ g ?_ (by decide) | refine Fr.aI g ?_ (by decide) | refine Fr.sI g ?_ (by decide) | refine Fr.sJ g ?_ (by decide))) (by decide) (by decide), RecE.fr (K := [42]) (S := []) r9 (by repeat (first | exact Fr.rf | assumption | refine Fr.aJ g ?_ (by decide) | refine Fr.aI g ?_ (by decide) | refine Fr.sI g ?_ (by decide) | refine Fr.sJ g ?_ (by decide))) (by decide) (by decide), HeE.fr (jx := jx) (K := [42]) (S := []) e9 (by repeat (first | exact Fr.rf | assumption | refine Fr.aJ g ?_ (by decide) | refine Fr.aI g ?_ (by decide) | refine Fr.sI g ?_ (by decide) | refine Fr.sJ g ?_ (by decide))) (by decide) (by decide)⟩
      · rw [if_neg hc47_1]
        by_cases hc47_2 : (gI σ (jx ja 2) (gI σ (ra 38) v1.toNat).toNat) = 3
        · rw [if_pos hc47_2]
          unfold w_X16_takeRow_189
          try simp only [forall_eq, rII, rIJ, rIP, rJJ, rJI, rJP, rPP, rPI, rPJ, g1, g2, g3, g4, g5, g6, g7, g8, Nat.reduceEqDiff, Nat.reduceAdd, false_and, and_false, true_and, and_true, reduceIte, nZ0, nZ1]
          refine s_X16_emit (b4 := (ra 81)) (n4 := 8) g rσ (by first | exact hj | (rw [fσ.2.2.2]; exact hj)) hja rfl (Or.inl ⟨81, rfl, by decide⟩) (by exact t9) (by (try simp only [rII, rIJ, rIP, rJJ, rJI, rJP, rPP, rPI, rPJ, g1, g2, g3, g4, g5, g6, g7, g8, Nat.reduceEqDiff, Nat.reduceAdd, false_and, and_false, true_and, and_true, reduceIte, nZ0, nZ1]) <;> (first | omega | with_reducible assumption | (unfold rng; omega) | (unfold rng; (repeat' split) <;> omega) | grind)) h3 (by (try simp only [rII, rIJ, rIP, rJJ, rJI, rJP, rPP, rPI, rPJ, g1, g2, g3, g4, g5, g6, g7, g8, Nat.reduceEqDiff, Nat.reduceAdd, false_and, and_false, true_and, and_true, reduceIte, nZ0, nZ1]) <;> (first | omega | with_reducible assumption | (unfold rng; omega) | (unfold rng; (repeat' split) <;> omega) | grind)) (by (try simp only [rII, rIJ, rIP, rJJ, rJI, rJP, rPP, rPI, rPJ, g1, g2, g3, g4, g5, g6, g7, g8, Nat.reduceEqDiff, Nat.reduceAdd, false_and, and_false, true_and, and_true, reduceIte, nZ0, nZ1]) <;> (first | omega | with_reducible assumption | (unfold rng; omega) | (unfold rng; (repeat' split) <;> omega) | grind)) (by (try simp only [rII, rIJ, rIP, rJJ, rJI, rJP, rPP, rPI, rPJ, g1, g2, g3, g4, g5, g6, g7, g8, Nat.reduceEqDiff, Nat.reduceAdd, false_and, and_false, true_and, and_true, reduceIte, nZ0, nZ1]) <;> (first | omega | with_reducible assumption | (unfold rng; omega) | (unfold rng; (repeat' split) <;> omega) | grind)) (by (try simp only [rII, rIJ, rIP, rJJ, rJI, rJP, rPP, rPI, rPJ, g1, g2, g3, g4, g5, g6, g7, g8, Nat.reduceEqDiff, Nat.reduceAdd, false_and, and_false, true_and, and_true, reduceIte, nZ0, nZ1]) <;> first | exact hp | (rw [(fσ.2.1 33 (by decide)).1]; exact hp)) (fun σ100 _ rσ100 fc p35 => ?_) (fun σx E rx fx px => hX _ _ rx (Fr.tr fσ (Fr.mor (fx) (by decide) (by decide))) ⟨px.1, px.2, RecE.fr r9 fx (by decide) (by decide), HeE.fr e9 fx (by decide) (by decide)⟩)
          have fσ100 : Fr ra jx rm [20, 26, 42, 46, 47, 48, 49, 60, 61, 62, 63, 64, 65, 68, 69, 70, 71, 72, 73, 74, 75, 76, 77, 78, 82, 83, 84, 85, 86, 87, 88, 89] [21, 27, 66, 67, 79, 80, 90, 91] σ σ100 := Fr.tr fσ (Fr.mor (fc) (by decide) (by decide))
          have fe9 := fc
          have r9 := RecE.fr r9 fe9 (by decide) (by decide)
          have e9 := HeE.fr e9 fe9 (by decide) (by decide)
          have t9 := p35
          have eσ100_38 := fσ100.1 38 (by decide)
          have eσ100_81 := fσ100.1 81 (by decide)
          have jσ100 := fσ100.2.2.1
          have pσ100 := fσ100.2.2.2
          try simp only [forall_eq, rII, rIJ, rIP, rJJ, rJI, rJP, rPP, rPI, rPJ, g1, g2, g3, g4, g5, g6, g7, g8, Nat.reduceEqDiff, Nat.reduceAdd, false_and, and_false, true_and, and_true, reduceIte, nZ0, nZ1, eσ100_38.1, eσ100_38.2, eσ100_81.1, eσ100_81.2, fun a k => (jσ100 a k).1, fun a k => (jσ100 a k).2, pσ100]
          unfold w_X16_takeRow_452
          try simp only [forall_eq, rII, rIJ, rIP, rJJ, rJI, rJP, rPP, rPI, rPJ, g1, g2, g3, g4, g5, g6, g7, g8, Nat.reduceEqDiff, Nat.reduceAdd, false_and, and_false, true_and, and_true, reduceIte, nZ0, nZ1, eσ100_38.1, eσ100_38.2, eσ100_81.1, eσ100_81.2, fun a k => (jσ100 a k).1, fun a k => (jσ100 a k).2, pσ100]
          refine hQ _ _ ?_ ?_ ?_
          · exact rσ100
          · exact fσ100
          · exact ⟨ThE.fr (jx := jx) (K := [42]) (S := []) t9 (by repeat (first | exact Fr.rf | assumption | refine Fr.aJ g ?_ (by decide) | refine Fr.aI g ?_ (by decide) | refine Fr.sI g ?_ (by decide) | refine Fr.sJ g ?_ (by decide))) (by decide) (by decide), RecE.fr (K := [42]) (S := []) r9 (by repeat (first | exact Fr.rf | assumption | refine Fr.aJ g ?_ (by decide) | refine Fr.aI g ?_ (by decide) | refine Fr.sI g ?_ (by decide) | refine Fr.sJ g ?_ (by decide))) (by decide) (by decide), HeE.fr (jx := jx) (K := [42]) (S := []) e9 (by repeat (first | exact Fr.rf | assumption | refine Fr.aJ g ?_ (by decide) | refine Fr.aI g ?_ (by decide) | refine Fr.sI g ?_ (by decide) | refine Fr.sJ g ?_ (by decide))) (by decide) (by decide)⟩
        · rw [if_neg hc47_2]
          by_cases hc47_3 : (gI σ (jx ja 2) (gI σ (ra 38) v1.toNat).toNat) = 4
          · rw [if_pos hc47_3]
            unfold w_X16_takeRow_205
            try simp only [forall_eq, rII, rIJ, rIP, rJJ, rJI, rJP, rPP, rPI, rPJ, g1, g2, g3, g4, g5, g6, g7, g8, Nat.reduceEqDiff, Nat.reduceAdd, false_and, and_false, true_and, and_true, reduceIte, nZ0, nZ1]
            refine s_X16_takeSpans g rσ (by first | exact hj | (rw [fσ.2.2.2]; exact hj)) hja (by exact r9) (by (try simp only [rII, rIJ, rIP, rJJ, rJI, rJP, rPP, rPI, rPJ, g1, g2, g3, g4, g5, g6, g7, g8, Nat.reduceEqDiff, Nat.reduceAdd, false_and, and_false, true_and, and_true, reduceIte, nZ0, nZ1]) <;> (first | omega | with_reducible assumption | (unfold rng; omega) | (unfold rng; (repeat' split) <;> omega) | grind)) (by (try simp only [rII, rIJ, rIP, rJJ, rJI, rJP, rPP, rPI, rPJ, g1, g2, g3, g4, g5, g6, g7, g8, Nat.reduceEqDiff, Nat.reduceAdd, false_and, and_false, true_and, and_true, reduceIte, nZ0, nZ1]) <;> (first | omega | with_reducible assumption | (unfold rng; omega) | (unfold rng; (repeat' split) <;> omega) | grind)) (by first | exact h3 | omega) (by (try simp only [rII, rIJ, rIP, rJJ, rJI, rJP, rPP, rPI, rPJ, g1, g2, g3, g4, g5, g6, g7, g8, Nat.reduceEqDiff, Nat.reduceAdd, false_and, and_false, true_and, and_true, reduceIte, nZ0, nZ1]) <;> (first | omega | with_reducible assumption | (unfold rng; omega) | (unfold rng; (repeat' split) <;> omega) | grind)) (by exact (o6 (by omega)).2) (by exact o7 (by omega)) (by (try simp only [rII, rIJ, rIP, rJJ, rJI, rJP, rPP, rPI, rPJ, g1, g2, g3, g4, g5, g6, g7, g8, Nat.reduceEqDiff, Nat.reduceAdd, false_and, and_false, true_and, and_true, reduceIte, nZ0, nZ1]) <;> first | rfl | omega) (by (try simp only [rII, rIJ, rIP, rJJ, rJI, rJP, rPP, rPI, rPJ, g1, g2, g3, g4, g5, g6, g7, g8, Nat.reduceEqDiff, Nat.reduceAdd, false_and, and_false, true_and, and_true, reduceIte, nZ0, nZ1]) <;> omega) (fun σ101 _ rσ101 fc p36 => ?_) (fun σx E rx fx px => hX _ _ rx (Fr.tr fσ (Fr.mor (fx) (by decide) (by decide))) ⟨px.1, ThE.fr t9 fx (by decide) (by decide), px.2, HeE.fr e9 fx (by decide) (by decide)⟩)
            have fσ101 : Fr ra jx rm [20, 26, 42, 46, 47, 48, 49, 60, 61, 62, 63, 64, 65, 68, 69, 70, 71, 72, 73, 74, 75, 76, 77, 78, 82, 83, 84, 85, 86, 87, 88, 89] [21, 27, 66, 67, 79, 80, 90, 91] σ σ101 := Fr.tr fσ (Fr.mor (fc) (by decide) (by decide))
            have t9 := ThE.fr t9 fc (by decide) (by decide)
            have e9 := HeE.fr e9 fc (by decide) (by decide)
            have r9 := p36
            have eσ101_38 := fσ101.1 38 (by decide)
            have eσ101_81 := fσ101.1 81 (by decide)
            have jσ101 := fσ101.2.2.1
            have pσ101 := fσ101.2.2.2
            try simp only [forall_eq, rII, rIJ, rIP, rJJ, rJI, rJP, rPP, rPI, rPJ, g1, g2, g3, g4, g5, g6, g7, g8, Nat.reduceEqDiff, Nat.reduceAdd, false_and, and_false, true_and, and_true, reduceIte, nZ0, nZ1, eσ101_38.1, eσ101_38.2, eσ101_81.1, eσ101_81.2, fun a k => (jσ101 a k).1, fun a k => (jσ101 a k).2, pσ101]
            unfold w_X16_takeRow_452
            try simp only [forall_eq, rII, rIJ, rIP, rJJ, rJI, rJP, rPP, rPI, rPJ, g1, g2, g3, g4, g5, g6, g7, g8, Nat.reduceEqDiff, Nat.reduceAdd, false_and, and_false, true_and, and_true, reduceIte, nZ0, nZ1, eσ101_38.1, eσ101_38.2, eσ101_81.1, eσ101_81.2, fun a k => (jσ101 a k).1, fun a k => (jσ101 a k).2, pσ101]
            refine hQ _ _ ?_ ?_ ?_
            · exact rσ101
            · exact fσ101
            · exact ⟨ThE.fr (jx := jx) (K := [42]) (S := []) t9 (by repeat (first | exact Fr.rf | assumption | refine Fr.aJ g ?_ (by decide) | refine Fr.aI g ?_ (by decide) | refine Fr.sI g ?_ (by decide) | refine Fr.sJ g ?_ (by decide))) (by decide) (by decide), RecE.fr (K := [42]) (S := []) r9 (by repeat (first | exact Fr.rf | assumption | refine Fr.aJ g ?_ (by decide) | refine Fr.aI g ?_ (by decide) | refine Fr.sI g ?_ (by decide) | refine Fr.sJ g ?_ (by decide))) (by decide) (by decide), HeE.fr (jx := jx) (K := [42]) (S := []) e9 (by repeat (first | exact Fr.rf | assumption | refine Fr.aJ g ?_ (by decide) | refine Fr.aI g ?_ (by decide) | refine Fr.sI g ?_ (by decide) | refine Fr.sJ g ?_ (by decide))) (by decide) (by decide)⟩
          · rw [if_neg hc47_3]
            by_cases hc47_4 : (gI σ (jx ja 2) (gI σ (ra 38) v1.toNat).toNat) = 5
            · rw [if_pos hc47_4]
              unfold w_X16_takeRow_218
              try simp only [forall_eq, rII, rIJ, rIP, rJJ, rJI, rJP, rPP, rPI, rPJ, g1, g2, g3, g4, g5, g6, g7, g8, Nat.reduceEqDiff, Nat.reduceAdd, false_and, and_false, true_and, and_true, reduceIte, nZ0, nZ1]
              refine s_X16_takeGaps g rσ (by first | exact hj | (rw [fσ.2.2.2]; exact hj)) hja (by exact r9) (by (try simp only [rII, rIJ, rIP, rJJ, rJI, rJP, rPP, rPI, rPJ, g1, g2, g3, g4, g5, g6, g7, g8, Nat.reduceEqDiff, Nat.reduceAdd, false_and, and_false, true_and, and_true, reduceIte, nZ0, nZ1]) <;> (first | omega | with_reducible assumption | (unfold rng; omega) | (unfold rng; (repeat' split) <;> omega) | grind)) (by (try simp only [rII, rIJ, rIP, rJJ, rJI, rJP, rPP, rPI, rPJ, g1, g2, g3, g4, g5, g6, g7, g8, Nat.reduceEqDiff, Nat.reduceAdd, false_and, and_false, true_and, and_true, reduceIte, nZ0, nZ1]) <;> (first | omega | with_reducible assumption | (unfold rng; omega) | (unfold rng; (repeat' split) <;> omega) | grind)) (by first | exact h3 | omega) (by (try simp only [rII, rIJ, rIP, rJJ, rJI, rJP, rPP, rPI, rPJ, g1, g2, g3, g4, g5, g6, g7, g8, Nat.reduceEqDiff, Nat.reduceAdd, false_and, and_false, true_and, and_true, reduceIte, nZ0, nZ1]) <;> (first | omega | with_reducible assumption | (unfold rng; omega) | (unfold rng; (repeat' split) <;> omega) | grind)) (by exact (o6 (by omega)).2) (by (try simp only [rII, rIJ, rIP, rJJ, rJI, rJP, rPP, rPI, rPJ, g1, g2, g3, g4, g5, g6, g7, g8, Nat.reduceEqDiff, Nat.reduceAdd, false_and, and_false, true_and, and_true, reduceIte, nZ0, nZ1]) <;> first | rfl | omega) (by (try simp only [rII, rIJ, rIP, rJJ, rJI, rJP, rPP, rPI, rPJ, g1, g2, g3, g4, g5, g6, g7, g8, Nat.reduceEqDiff, Nat.reduceAdd, false_and, and_false, true_and, and_true, reduceIte, nZ0, nZ1]) <;> omega) (fun σ102 _ rσ102 fc p37 => ?_) (fun σx E rx fx px => hX _ _ rx (Fr.tr fσ (Fr.mor (fx) (by decide) (by decide))) ⟨px.1, ThE.fr t9 fx (by decide) (by decide), px.2, HeE.fr e9 fx (by decide) (by decide)⟩)
              have fσ102 : Fr ra jx rm [20, 26, 42, 46, 47, 48, 49, 60, 61, 62, 63, 64, 65, 68, 69, 70, 71, 72, 73, 74, 75, 76, 77, 78, 82, 83, 84, 85, 86, 87, 88, 89] [21, 27, 66, 67, 79, 80, 90, 91] σ σ102 := Fr.tr fσ (Fr.mor (fc) (by decide) (by decide))
              have t9 := ThE.fr t9 fc (by decide) (by decide)
              have e9 := HeE.fr e9 fc (by decide) (by decide)
              have r9 := p37
              have eσ102_38 := fσ102.1 38 (by decide)
              have eσ102_81 := fσ102.1 81 (by decide)
              have jσ102 := fσ102.2.2.1
              have pσ102 := fσ102.2.2.2
              try simp only [forall_eq, rII, rIJ, rIP, rJJ, rJI, rJP, rPP, rPI, rPJ, g1, g2, g3, g4, g5, g6, g7, g8, Nat.reduceEqDiff, Nat.reduceAdd, false_and, and_false, true_and, and_true, reduceIte, nZ0, nZ1, eσ102_38.1, eσ102_38.2, eσ102_81.1, eσ102_81.2, fun a k => (jσ102 a k).1, fun a k => (jσ102 a k).2, pσ102]
              unfold w_X16_takeRow_452
              try simp only [forall_eq, rII, rIJ, rIP, rJJ, rJI, rJP, rPP, rPI, rPJ, g1, g2, g3, g4, g5, g6, g7, g8, Nat.reduceEqDiff, Nat.reduceAdd, false_and, and_false, true_and, and_true, reduceIte, nZ0, nZ1, eσ102_38.1, eσ102_38.2, eσ102_81.1, eσ102_81.2, fun a k => (jσ102 a k).1, fun a k => (jσ102 a k).2, pσ102]
              refine hQ _ _ ?_ ?_ ?_
              · exact rσ102
              · exact fσ102
              · exact ⟨ThE.fr (jx := jx) (K := [42]) (S := []) t9 (by repeat (first | exact Fr.rf | assumption | refine Fr.aJ g ?_ (by decide) | refine Fr.aI g ?_ (by decide) | refine Fr.sI g ?_ (by decide) | refine Fr.sJ g ?_ (by decide))) (by decide) (by decide), RecE.fr (K := [42]) (S := []) r9 (by repeat (first | exact Fr.rf | assumption | refine Fr.aJ g ?_ (by decide) | refine Fr.aI g ?_ (by decide) | refine Fr.sI g ?_ (by decide) | refine Fr.sJ g ?_ (by decide))) (by decide) (by decide), HeE.fr (jx := jx) (K := [42]) (S := []) e9 (by repeat (first | exact Fr.rf | assumption | refine Fr.aJ g ?_ (by decide) | refine Fr.aI g ?_ (by decide) | refine Fr.sI g ?_ (by decide) | refine Fr.sJ g ?_ (by decide))) (by decide) (by decide)⟩
            · rw [if_neg hc47_4]
              by_cases hc47_5 : (gI σ (jx ja 2) (gI σ (ra 38) v1.toNat).toNat) = 6
              · rw [if_pos hc47_5]
                unfold w_X16_takeRow_231
                try simp only [forall_eq, rII, rIJ, rIP, rJJ, rJI, rJP, rPP, rPI, rPJ, g1, g2, g3, g4, g5, g6, g7, g8, Nat.reduceEqDiff, Nat.reduceAdd, false_and, and_false, true_and, and_true, reduceIte, nZ0, nZ1]
                refine s_X16_takeJoin g rσ (by first | exact hj | (rw [fσ.2.2.2]; exact hj)) hja (by exact r9) (by exact t9) (by (try simp only [rII, rIJ, rIP, rJJ, rJI, rJP, rPP, rPI, rPJ, g1, g2, g3, g4, g5, g6, g7, g8, Nat.reduceEqDiff, Nat.reduceAdd, false_and, and_false, true_and, and_true, reduceIte, nZ0, nZ1]) <;> (first | omega | with_reducible assumption | (unfold rng; omega) | (unfold rng; (repeat' split) <;> omega) | grind)) (by (try simp only [rII, rIJ, rIP, rJJ, rJI, rJP, rPP, rPI, rPJ, g1, g2, g3, g4, g5, g6, g7, g8, Nat.reduceEqDiff, Nat.reduceAdd, false_and, and_false, true_and, and_true, reduceIte, nZ0, nZ1]) <;> (first | omega | with_reducible assumption | (unfold rng; omega) | (unfold rng; (repeat' split) <;> omega) | grind)) (by first | exact h3 | omega) (by first | exact h3 | omega) (by (try simp only [rII, rIJ, rIP, rJJ, rJI, rJP, rPP, rPI, rPJ, g1, g2, g3, g4, g5, g6, g7, g8, Nat.reduceEqDiff, Nat.reduceAdd, false_and, and_false, true_and, and_true, reduceIte, nZ0, nZ1]) <;> (first | omega | with_reducible assumption | (unfold rng; omega) | (unfold rng; (repeat' split) <;> omega) | grind)) (by (try simp only [rII, rIJ, rIP, rJJ, rJI, rJP, rPP, rPI, rPJ, g1, g2, g3, g4, g5, g6, g7, g8, Nat.reduceEqDiff, Nat.reduceAdd, false_and, and_false, true_and, and_true, reduceIte, nZ0, nZ1]) <;> first | exact hp | (rw [(fσ.2.1 33 (by decide)).1]; exact hp)) (by omega) (by exact o2 (by omega)) (by (try simp only [rII, rIJ, rIP, rJJ, rJI, rJP, rPP, rPI, rPJ, g1, g2, g3, g4, g5, g6, g7, g8, Nat.reduceEqDiff, Nat.reduceAdd, false_and, and_false, true_and, and_true, reduceIte, nZ0, nZ1]) <;> first | rfl | omega) (by (try simp only [rII, rIJ, rIP, rJJ, rJI, rJP, rPP, rPI, rPJ, g1, g2, g3, g4, g5, g6, g7, g8, Nat.reduceEqDiff, Nat.reduceAdd, false_and, and_false, true_and, and_true, reduceIte, nZ0, nZ1]) <;> omega) (fun σ103 _ rσ103 fc p38 => ?_) (fun σx E rx fx px => hX _ _ rx (Fr.tr fσ (Fr.mor (fx) (by decide) (by decide))) ⟨px.1, px.2.1, px.2.2, HeE.fr e9 fx (by decide) (by decide)⟩)
                have fσ103 : Fr ra jx rm [20, 26, 42, 46, 47, 48, 49, 60, 61, 62, 63, 64, 65, 68, 69, 70, 71, 72, 73, 74, 75, 76, 77, 78, 82, 83, 84, 85, 86, 87, 88, 89] [21, 27, 66, 67, 79, 80, 90, 91] σ σ103 := Fr.tr fσ (Fr.mor (fc) (by decide) (by decide))
                have e9 := HeE.fr e9 fc (by decide) (by decide)
                have r9 := p38.1
                have t9 := p38.2
                have eσ103_38 := fσ103.1 38 (by decide)
                have eσ103_81 := fσ103.1 81 (by decide)
                have jσ103 := fσ103.2.2.1
                have pσ103 := fσ103.2.2.2
                try simp only [forall_eq, rII, rIJ, rIP, rJJ, rJI, rJP, rPP, rPI, rPJ, g1, g2, g3, g4, g5, g6, g7, g8, Nat.reduceEqDiff, Nat.reduceAdd, false_and, and_false, true_and, and_true, reduceIte, nZ0, nZ1, eσ103_38.1, eσ103_38.2, eσ103_81.1, eσ103_81.2, fun a k => (jσ103 a k).1, fun a k => (jσ103 a k).2, pσ103]
                unfold w_X16_takeRow_452
                try simp only [forall_eq, rII, rIJ, rIP, rJJ, rJI, rJP, rPP, rPI, rPJ, g1, g2, g3, g4, g5, g6, g7, g8, Nat.reduceEqDiff, Nat.reduceAdd, false_and, and_false, true_and, and_true, reduceIte, nZ0, nZ1, eσ103_38.1, eσ103_38.2, eσ103_81.1, eσ103_81.2, fun a k => (jσ103 a k).1, fun a k => (jσ103 a k).2, pσ103]
                refine hQ _ _ ?_ ?_ ?_
                · exact rσ103
                · exact fσ103
                · exact ⟨ThE.fr (jx := jx) (K := [42]) (S := []) t9 (by repeat (first | exact Fr.rf | assumption | refine Fr.aJ g ?_ (by decide) | refine Fr.aI g ?_ (by decide) | refine Fr.sI g ?_ (by decide) | refine Fr.sJ g ?_ (by decide))) (by decide) (by decide), RecE.fr (K := [42]) (S := []) r9 (by repeat (first | exact Fr.rf | assumption | refine Fr.aJ g ?_ (by decide) | refine Fr.aI g ?_ (by decide) | refine Fr.sI g ?_ (by decide) | refine Fr.sJ g ?_ (by decide))) (by decide) (by decide), HeE.fr (jx := jx) (K := [42]) (S := []) e9 (by repeat (first | exact Fr.rf | assumption | refine Fr.aJ g ?_ (by decide) | refine Fr.aI g ?_ (by decide) | refine Fr.sI g ?_ (by decide) | refine Fr.sJ g ?_ (by decide))) (by decide) (by decide)⟩
              · rw [if_neg hc47_5]
                by_cases hc47_6 : (gI σ (jx ja 2) (gI σ (ra 38) v1.toNat).toNat) = 7
                · rw [if_pos hc47_6]
                  unfold w_X16_takeRow_245
                  try simp only [forall_eq, rII, rIJ, rIP, rJJ, rJI, rJP, rPP, rPI, rPJ, g1, g2, g3, g4, g5, g6, g7, g8, Nat.reduceEqDiff, Nat.reduceAdd, false_and, and_false, true_and, and_true, reduceIte, nZ0, nZ1]
                  rw [if_neg hc9]
                  unfold w_X16_takeRow_256
                  try simp only [forall_eq, rII, rIJ, rIP, rJJ, rJI, rJP, rPP, rPI, rPJ, g1, g2, g3, g4, g5, g6, g7, g8, Nat.reduceEqDiff, Nat.reduceAdd, false_and, and_false, true_and, and_true, reduceIte, nZ0, nZ1]
                  refine ⟨ja, by exact hj, hja, ?_⟩
                  refine ⟨by (first | omega | with_reducible assumption | (unfold rng; omega) | (unfold rng; (repeat' split) <;> omega) | grind), ?_⟩
                  unfold w_X16_takeRow_279
                  try simp only [forall_eq, rII, rIJ, rIP, rJJ, rJI, rJP, rPP, rPI, rPJ, g1, g2, g3, g4, g5, g6, g7, g8, Nat.reduceEqDiff, Nat.reduceAdd, false_and, and_false, true_and, and_true, reduceIte, nZ0, nZ1]
                  have q39 := rσ.2.2.1 ja 10 ((gI σ (ra 38) v1.toNat).toNat); simp only [rgJ] at q39
                  refine ⟨by (first | omega | with_reducible assumption | (unfold rng; omega) | (unfold rng; (repeat' split) <;> omega) | grind), ?_⟩
                  refine s_X16_record (b9 := (ra 81)) (n9 := 8) g rσ rfl (Or.inl ⟨81, rfl, by decide⟩) (by with_reducible assumption) (by (try simp only [rII, rIJ, rIP, rJJ, rJI, rJP, rPP, rPI, rPJ, g1, g2, g3, g4, g5, g6, g7, g8, Nat.reduceEqDiff, Nat.reduceAdd, false_and, and_false, true_and, and_true, reduceIte, nZ0, nZ1]) <;> (first | omega | with_reducible assumption | (unfold rng; omega) | (unfold rng; (repeat' split) <;> omega) | grind)) (by (try simp only [rII, rIJ, rIP, rJJ, rJI, rJP, rPP, rPI, rPJ, g1, g2, g3, g4, g5, g6, g7, g8, Nat.reduceEqDiff, Nat.reduceAdd, false_and, and_false, true_and, and_true, reduceIte, nZ0, nZ1]) <;> (first | omega | with_reducible assumption | (unfold rng; omega) | (unfold rng; (repeat' split) <;> omega) | grind)) h3 (by (try simp only [rII, rIJ, rIP, rJJ, rJI, rJP, rPP, rPI, rPJ, g1, g2, g3, g4, g5, g6, g7, g8, Nat.reduceEqDiff, Nat.reduceAdd, false_and, and_false, true_and, and_true, reduceIte, nZ0, nZ1]) <;> (first | omega | with_reducible assumption | (unfold rng; omega) | (unfold rng; (repeat' split) <;> omega) | grind)) (by (try simp only [rII, rIJ, rIP, rJJ, rJI, rJP, rPP, rPI, rPJ, g1, g2, g3, g4, g5, g6, g7, g8, Nat.reduceEqDiff, Nat.reduceAdd, false_and, and_false, true_and, and_true, reduceIte, nZ0, nZ1]) <;> (first | omega | with_reducible assumption | (unfold rng; omega) | (unfold rng; (repeat' split) <;> omega) | grind)) (by (try simp only [rII, rIJ, rIP, rJJ, rJI, rJP, rPP, rPI, rPJ, g1, g2, g3, g4, g5, g6, g7, g8, Nat.reduceEqDiff, Nat.reduceAdd, false_and, and_false, true_and, and_true, reduceIte, nZ0, nZ1]) <;> (first | omega | with_reducible assumption | (unfold rng; omega) | (unfold rng; (repeat' split) <;> omega) | grind)) (fun σ105 r106 rσ105 fc p40 => ?_) (fun σx E rx fx px => hX _ _ rx (Fr.tr fσ (Fr.mor (fx) (by decide) (by decide))) (by obtain ⟨e1, e2⟩ := px; subst e2; exact ⟨e1, t9, r9, e9⟩))
                  have fσ105 : Fr ra jx rm [20, 26, 42, 46, 47, 48, 49, 60, 61, 62, 63, 64, 65, 68, 69, 70, 71, 72, 73, 74, 75, 76, 77, 78, 82, 83, 84, 85, 86, 87, 88, 89] [21, 27, 66, 67, 79, 80, 90, 91] σ σ105 := Fr.tr fσ (Fr.mor (fc) (by decide) (by decide))
                  have t9 := ThE.fr t9 fc (by decide) (by decide)
                  have e9 := HeE.fr e9 fc (by decide) (by decide)
                  have me8 := MtI.more hm0 fc (by decide) h1 p40.2.2.2.1 p40.2.2.2.2.1 p40.2.2.2.2.2 (fun a ha => (hr0.2.2.1 a (by omega)).1) (fun q w => by first | omega | (exfalso; (try simp only [rII, rIJ, rIP, rJJ, rJI, rJP, rPP, rPI, rPJ, g1, g2, g3, g4, g5, g6, g7, g8, Nat.reduceEqDiff, Nat.reduceAdd, false_and, and_false, true_and, and_true, reduceIte, nZ0, nZ1] at q) <;> omega))
                  have r9 : RecE ra jx rm ja σ105 := ⟨_, _, p40.1, me8⟩
                  have eσ105_38 := fσ105.1 38 (by decide)
                  have eσ105_81 := fσ105.1 81 (by decide)
                  have jσ105 := fσ105.2.2.1
                  have pσ105 := fσ105.2.2.2
                  try simp only [forall_eq, rII, rIJ, rIP, rJJ, rJI, rJP, rPP, rPI, rPJ, g1, g2, g3, g4, g5, g6, g7, g8, Nat.reduceEqDiff, Nat.reduceAdd, false_and, and_false, true_and, and_true, reduceIte, nZ0, nZ1, eσ105_38.1, eσ105_38.2, eσ105_81.1, eσ105_81.2, fun a k => (jσ105 a k).1, fun a k => (jσ105 a k).2, pσ105]
                  unfold w_X16_takeRow_452
                  try simp only [forall_eq, rII, rIJ, rIP, rJJ, rJI, rJP, rPP, rPI, rPJ, g1, g2, g3, g4, g5, g6, g7, g8, Nat.reduceEqDiff, Nat.reduceAdd, false_and, and_false, true_and, and_true, reduceIte, nZ0, nZ1, eσ105_38.1, eσ105_38.2, eσ105_81.1, eσ105_81.2, fun a k => (jσ105 a k).1, fun a k => (jσ105 a k).2, pσ105]
                  refine hQ _ _ ?_ ?_ ?_
                  · exact rσ105
                  · exact fσ105
                  · exact ⟨ThE.fr (jx := jx) (K := [42]) (S := []) t9 (by repeat (first | exact Fr.rf | assumption | refine Fr.aJ g ?_ (by decide) | refine Fr.aI g ?_ (by decide) | refine Fr.sI g ?_ (by decide) | refine Fr.sJ g ?_ (by decide))) (by decide) (by decide), RecE.fr (K := [42]) (S := []) r9 (by repeat (first | exact Fr.rf | assumption | refine Fr.aJ g ?_ (by decide) | refine Fr.aI g ?_ (by decide) | refine Fr.sI g ?_ (by decide) | refine Fr.sJ g ?_ (by decide))) (by decide) (by decide), HeE.fr (jx := jx) (K := [42]) (S := []) e9 (by repeat (first | exact Fr.rf | assumption | refine Fr.aJ g ?_ (by decide) | refine Fr.aI g ?_ (by decide) | refine Fr.sI g ?_ (by decide) | refine Fr.sJ g ?_ (by decide))) (by decide) (by decide)⟩
                · rw [if_neg hc47_6]
                  by_cases hc47_7 : (gI σ (jx ja 2) (gI σ (ra 38) v1.toNat).toNat) = 8
                  · rw [if_pos hc47_7]
                    unfold w_X16_takeRow_296
                    try simp only [forall_eq, rII, rIJ, rIP, rJJ, rJI, rJP, rPP, rPI, rPJ, g1, g2, g3, g4, g5, g6, g7, g8, Nat.reduceEqDiff, Nat.reduceAdd, false_and, and_false, true_and, and_true, reduceIte, nZ0, nZ1]
                    have q41 := rσ.2.2.1 ja 12 ((gI σ (ra 38) v1.toNat).toNat); simp only [rgJ] at q41
                    have L299 : ∀ (fu299 : Nat) (τ299 : Sg) (v10 : Int), Rg ra jx rm τ299 → Fr ra jx rm [20, 26, 42, 46, 47, 48, 49, 60, 61, 62, 63, 64, 65, 68, 69, 70, 71, 72, 73, 74, 75, 76, 77, 78, 82, 83, 84, 85, 86, 87, 88, 89] [21, 27, 66, 67, 79, 80, 90, 91] σ τ299 → ((ThE ra rm τ299 ∧ RecE ra jx rm ja τ299 ∧ HeE ra rm τ299) ∧ 0 ≤ v10 ∧ v10 ≤ (gI σ (jx ja 12) (gI σ (ra 38) v1.toNat).toNat)) → (((gI σ (jx ja 12) (gI σ (ra 38) v1.toNat).toNat) - v10).toNat) < fu299 → wl_X16_takeRow_299 ra jx rm Q X fu299 τ299 v1 v3 v5 (gI σ (ra 38) v1.toNat) v10 := by
                      intro fu299
                      induction fu299 with
                      | zero => intro τ299 _ _ _ _ h9; omega
                      | succ fu299 ih299 =>
                        intro τ299 v10 rτ299 fτ299 hi299 hm299
                        unfold wl_X16_takeRow_299
                        have eτ299_38 := fτ299.1 38 (by decide)
                        have eτ299_81 := fτ299.1 81 (by decide)
                        have jτ299 := fτ299.2.2.1
                        have pτ299 := fτ299.2.2.2
                        unfold w_X16_takeRow_299
                        try simp only [forall_eq, rII, rIJ, rIP, rJJ, rJI, rJP, rPP, rPI, rPJ, g1, g2, g3, g4, g5, g6, g7, g8, Nat.reduceEqDiff, Nat.reduceAdd, false_and, and_false, true_and, and_true, reduceIte, nZ0, nZ1, eτ299_38.1, eτ299_38.2, eτ299_81.1, eτ299_81.2, fun a k => (jτ299 a k).1, fun a k => (jτ299 a k).2, pτ299]
                        obtain ⟨⟨t9, r9, e9⟩, k1, k2⟩ := hi299
                        obtain ⟨own0, ps0, hr0, hm0⟩ := id r9
                        refine ⟨ja, by exact hj, hja, ?_⟩
                        refine ⟨by (first | omega | with_reducible assumption | (unfold rng; omega) | (unfold rng; (repeat' split) <;> omega) | grind), ?_⟩
                        split
                        · rename_i hc311
                          skip
                          unfold w_X16_takeRow_369
                          try simp only [forall_eq, rII, rIJ, rIP, rJJ, rJI, rJP, rPP, rPI, rPJ, g1, g2, g3, g4, g5, g6, g7, g8, Nat.reduceEqDiff, Nat.reduceAdd, false_and, and_false, true_and, and_true, reduceIte, nZ0, nZ1, eτ299_38.1, eτ299_38.2, eτ299_81.1, eτ299_81.2, fun a k => (jτ299 a k).1, fun a k => (jτ299 a k).2, pτ299]
                          refine ⟨ja, by exact hj, hja, ?_⟩
                          refine ⟨by (first | omega | with_reducible assumption | (unfold rng; omega) | (unfold rng; (repeat' split) <;> omega) | grind), ?_⟩
                          have q42 := rσ.2.2.1 ja 10 ((gI σ (ra 38) v1.toNat).toNat); simp only [rgJ] at q42
                          refine ⟨by (first | omega | with_reducible assumption | (unfold rng; omega) | (unfold rng; (repeat' split) <;> omega) | grind), ?_⟩
                          refine s_X16_record (b9 := (ra 81)) (n9 := 8) g rτ299 rfl (Or.inl ⟨81, rfl, by decide⟩) (by with_reducible assumption) (by (try simp only [rII, rIJ, rIP, rJJ, rJI, rJP, rPP, rPI, rPJ, g1, g2, g3, g4, g5, g6, g7, g8, Nat.reduceEqDiff, Nat.reduceAdd, false_and, and_false, true_and, and_true, reduceIte, nZ0, nZ1, eτ299_38.1, eτ299_38.2, eτ299_81.1, eτ299_81.2, fun a k => (jτ299 a k).1, fun a k => (jτ299 a k).2, pτ299]) <;> (first | omega | with_reducible assumption | (unfold rng; omega) | (unfold rng; (repeat' split) <;> omega) | grind)) (by (try simp only [rII, rIJ, rIP, rJJ, rJI, rJP, rPP, rPI, rPJ, g1, g2, g3, g4, g5, g6, g7, g8, Nat.reduceEqDiff, Nat.reduceAdd, false_and, and_false, true_and, and_true, reduceIte, nZ0, nZ1, eτ299_38.1, eτ299_38.2, eτ299_81.1, eτ299_81.2, fun a k => (jτ299 a k).1, fun a k => (jτ299 a k).2, pτ299]) <;> (first | omega | with_reducible assumption | (unfold rng; omega) | (unfold rng; (repeat' split) <;> omega) | grind)) h3 (by (try simp only [rII, rIJ, rIP, rJJ, rJI, rJP, rPP, rPI, rPJ, g1, g2, g3, g4, g5, g6, g7, g8, Nat.reduceEqDiff, Nat.reduceAdd, false_and, and_false, true_and, and_true, reduceIte, nZ0, nZ1, eτ299_38.1, eτ299_38.2, eτ299_81.1, eτ299_81.2, fun a k => (jτ299 a k).1, fun a k => (jτ299 a k).2, pτ299]) <;> (first | omega | with_reducible assumption | (unfold rng; omega) | (unfold rng; (repeat' split) <;> omega) | grind)) (by (try simp only [rII, rIJ, rIP, rJJ, rJI, rJP, rPP, rPI, rPJ, g1, g2, g3, g4, g5, g6, g7, g8, Nat.reduceEqDiff, Nat.reduceAdd, false_and, and_false, true_and, and_true, reduceIte, nZ0, nZ1, eτ299_38.1, eτ299_38.2, eτ299_81.1, eτ299_81.2, fun a k => (jτ299 a k).1, fun a k => (jτ299 a k).2, pτ299]) <;> (first | omega | with_reducible assumption | (unfold rng; omega) | (unfold rng; (repeat' split) <;> omega) | grind)) (by (try simp only [rII, rIJ, rIP, rJJ, rJI, rJP, rPP, rPI, rPJ, g1, g2, g3, g4, g5, g6, g7, g8, Nat.reduceEqDiff, Nat.reduceAdd, false_and, and_false, true_and, and_true, reduceIte, nZ0, nZ1, eτ299_38.1, eτ299_38.2, eτ299_81.1, eτ299_81.2, fun a k => (jτ299 a k).1, fun a k => (jτ299 a k).2, pτ299]) <;> (first | omega | with_reducible assumption | (unfold rng; omega) | (unfold rng; (repeat' split) <;> omega) | grind)) (fun σ109 r110 rσ109 fc p43 => ?_) (fun σx E rx fx px => hX _ _ rx (Fr.tr fτ299 (Fr.mor (fx) (by decide) (by decide))) (by obtain ⟨e1, e2⟩ := px; subst e2; exact ⟨e1, t9, r9, e9⟩))
                          have fσ109 : Fr ra jx rm [20, 26, 42, 46, 47, 48, 49, 60, 61, 62, 63, 64, 65, 68, 69, 70, 71, 72, 73, 74, 75, 76, 77, 78, 82, 83, 84, 85, 86, 87, 88, 89] [21, 27, 66, 67, 79, 80, 90, 91] σ σ109 := Fr.tr fτ299 (Fr.mor (fc) (by decide) (by decide))
                          have t9 := ThE.fr t9 fc (by decide) (by decide)
                          have e9 := HeE.fr e9 fc (by decide) (by decide)
                          have me8 := MtI.more hm0 fc (by decide) h1 p43.2.2.2.1 p43.2.2.2.2.1 p43.2.2.2.2.2 (fun a ha => (hr0.2.2.1 a (by omega)).1) (fun q w => by first | omega | (exfalso; (try simp only [rII, rIJ, rIP, rJJ, rJI, rJP, rPP, rPI, rPJ, g1, g2, g3, g4, g5, g6, g7, g8, Nat.reduceEqDiff, Nat.reduceAdd, false_and, and_false, true_and, and_true, reduceIte, nZ0, nZ1, eτ299_38.1, eτ299_38.2, eτ299_81.1, eτ299_81.2, fun a k => (jτ299 a k).1, fun a k => (jτ299 a k).2, pτ299] at q) <;> omega))
                          have r9 : RecE ra jx rm ja σ109 := ⟨_, _, p43.1, me8⟩
                          have eσ109_38 := fσ109.1 38 (by decide)
                          have eσ109_81 := fσ109.1 81 (by decide)
                          have jσ109 := fσ109.2.2.1
                          have pσ109 := fσ109.2.2.2
                          try simp only [forall_eq, rII, rIJ, rIP, rJJ, rJI, rJP, rPP, rPI, rPJ, g1, g2, g3, g4, g5, g6, g7, g8, Nat.reduceEqDiff, Nat.reduceAdd, false_and, and_false, true_and, and_true, reduceIte, nZ0, nZ1, eσ109_38.1, eσ109_38.2, eσ109_81.1, eσ109_81.2, fun a k => (jσ109 a k).1, fun a k => (jσ109 a k).2, pσ109]
                          unfold w_X16_takeRow_452
                          try simp only [forall_eq, rII, rIJ, rIP, rJJ, rJI, rJP, rPP, rPI, rPJ, g1, g2, g3, g4, g5, g6, g7, g8, Nat.reduceEqDiff, Nat.reduceAdd, false_and, and_false, true_and, and_true, reduceIte, nZ0, nZ1, eσ109_38.1, eσ109_38.2, eσ109_81.1, eσ109_81.2, fun a k => (jσ109 a k).1, fun a k => (jσ109 a k).2, pσ109]
                          refine hQ _ _ ?_ ?_ ?_
                          · exact rσ109
                          · exact fσ109
                          · exact ⟨ThE.fr (jx := jx) (K := [42]) (S := []) t9 (by repeat (first | exact Fr.rf | assumption | refine Fr.aJ g ?_ (by decide) | refine Fr.aI g ?_ (by decide) | refine Fr.sI g ?_ (by decide) | refine Fr.sJ g ?_ (by decide))) (by decide) (by decide), RecE.fr (K := [42]) (S := []) r9 (by repeat (first | exact Fr.rf | assumption | refine Fr.aJ g ?_ (by decide) | refine Fr.aI g ?_ (by decide) | refine Fr.sI g ?_ (by decide) | refine Fr.sJ g ?_ (by decide))) (by decide) (by decide), HeE.fr (jx := jx) (K := [42]) (S := []) e9 (by repeat (first | exact Fr.rf | assumption | refine Fr.aJ g ?_ (by decide) | refine Fr.aI g ?_ (by decide) | refine Fr.sI g ?_ (by decide) | refine Fr.sJ g ?_ (by decide))) (by decide) (by decide)⟩
                        · rename_i hc311
                          skip
                          unfold w_X16_takeRow_314
                          try simp only [forall_eq, rII, rIJ, rIP, rJJ, rJI, rJP, rPP, rPI, rPJ, g1, g2, g3, g4, g5, g6, g7, g8, Nat.reduceEqDiff, Nat.reduceAdd, false_and, and_false, true_and, and_true, reduceIte, nZ0, nZ1, eτ299_38.1, eτ299_38.2, eτ299_81.1, eτ299_81.2, fun a k => (jτ299 a k).1, fun a k => (jτ299 a k).2, pτ299]
                          refine ⟨ja, by exact hj, hja, ?_⟩
                          refine ⟨by (first | omega | with_reducible assumption | (unfold rng; omega) | (unfold rng; (repeat' split) <;> omega) | grind), ?_⟩
                          refine ⟨by (first | omega | with_reducible assumption | (unfold rng; omega) | (unfold rng; (repeat' split) <;> omega) | grind), ?_⟩
                          refine ⟨by (first | omega | with_reducible assumption | (unfold rng; omega) | (unfold rng; (repeat' split) <;> omega) | grind), ?_⟩
                          have q44 := rσ.2.2.1 ja 13 (((8 * (gI σ (ra 38) v1.toNat)) + v10).toNat); simp only [rgJ] at q44
                          refine s_X16_worth (b5 := (ra 81)) (n5 := 8) g rτ299 rfl (Or.inl ⟨81, rfl, by decide⟩) (by first | exact hj | (rw [fτ299.2.2.2]; exact hj)) hja (by (try simp only [rII, rIJ, rIP, rJJ, rJI, rJP, rPP, rPI, rPJ, g1, g2, g3, g4, g5, g6, g7, g8, Nat.reduceEqDiff, Nat.reduceAdd, false_and, and_false, true_and, and_true, reduceIte, nZ0, nZ1, eτ299_38.1, eτ299_38.2, eτ299_81.1, eτ299_81.2, fun a k => (jτ299 a k).1, fun a k => (jτ299 a k).2, pτ299]) <;> first | exact PO.fr ((o4 (by omega)).2 v10 (by omega) (by omega)) hja fτ299 (by decide) | (have w8 := (o4 (by omega)).2 0 (by omega) (by omega); rw [show 8 * (gI σ (ra 38) v1.toNat) + 0 = 8 * (gI σ (ra 38) v1.toNat) by omega] at w8; exact PO.fr w8 hja fτ299 (by decide))) (by (try simp only [rII, rIJ, rIP, rJJ, rJI, rJP, rPP, rPI, rPJ, g1, g2, g3, g4, g5, g6, g7, g8, Nat.reduceEqDiff, Nat.reduceAdd, false_and, and_false, true_and, and_true, reduceIte, nZ0, nZ1, eτ299_38.1, eτ299_38.2, eτ299_81.1, eτ299_81.2, fun a k => (jτ299 a k).1, fun a k => (jτ299 a k).2, pτ299]) <;> (first | omega | with_reducible assumption | (unfold rng; omega) | (unfold rng; (repeat' split) <;> omega) | grind)) (by (try simp only [rII, rIJ, rIP, rJJ, rJI, rJP, rPP, rPI, rPJ, g1, g2, g3, g4, g5, g6, g7, g8, Nat.reduceEqDiff, Nat.reduceAdd, false_and, and_false, true_and, and_true, reduceIte, nZ0, nZ1, eτ299_38.1, eτ299_38.2, eτ299_81.1, eτ299_81.2, fun a k => (jτ299 a k).1, fun a k => (jτ299 a k).2, pτ299]) <;> (first | omega | with_reducible assumption | (unfold rng; omega) | (unfold rng; (repeat' split) <;> omega) | grind)) (fun σ112 r113 rσ112 fc p45 => ?_)
                          have fσ112 : Fr ra jx rm [20, 26, 42, 46, 47, 48, 49, 60, 61, 62, 63, 64, 65, 68, 69, 70, 71, 72, 73, 74, 75, 76, 77, 78, 82, 83, 84, 85, 86, 87, 88, 89] [21, 27, 66, 67, 79, 80, 90, 91] σ σ112 := Fr.tr fτ299 (Fr.mor (fc) (by decide) (by decide))
                          have t9 := ThE.fr t9 fc (by decide) (by decide)
                          have r9 := RecE.fr r9 fc (by decide) (by decide)
                          have e9 := HeE.fr e9 fc (by decide) (by decide)
                          have eσ112_38 := fσ112.1 38 (by decide)
                          have eσ112_81 := fσ112.1 81 (by decide)
                          have jσ112 := fσ112.2.2.1
                          have pσ112 := fσ112.2.2.2
                          try simp only [forall_eq, rII, rIJ, rIP, rJJ, rJI, rJP, rPP, rPI, rPJ, g1, g2, g3, g4, g5, g6, g7, g8, Nat.reduceEqDiff, Nat.reduceAdd, false_and, and_false, true_and, and_true, reduceIte, nZ0, nZ1, eσ112_38.1, eσ112_38.2, eσ112_81.1, eσ112_81.2, fun a k => (jσ112 a k).1, fun a k => (jσ112 a k).2, pσ112]
                          have q46 := rσ112.2.1 21; simp only [rgS] at q46
                          split
                          · rename_i hc349
                            skip
                            unfold w_X16_takeRow_363
                            try simp only [forall_eq, rII, rIJ, rIP, rJJ, rJI, rJP, rPP, rPI, rPJ, g1, g2, g3, g4, g5, g6, g7, g8, Nat.reduceEqDiff, Nat.reduceAdd, false_and, and_false, true_and, and_true, reduceIte, nZ0, nZ1, eσ112_38.1, eσ112_38.2, eσ112_81.1, eσ112_81.2, fun a k => (jσ112 a k).1, fun a k => (jσ112 a k).2, pσ112]
                            refine ⟨by (first | omega | with_reducible assumption | (unfold rng; omega) | (unfold rng; (repeat' split) <;> omega) | grind), ?_⟩
                            refine ih299 _ _ ?_ ?_ ?_ ?_
                            · exact rσ112
                            · exact fσ112
                            · first | exact ⟨⟨t9, r9, e9⟩, by omega, by omega⟩
                            · (try simp only [rII, rIJ, rIP, rJJ, rJI, rJP, rPP, rPI, rPJ, g1, g2, g3, g4, g5, g6, g7, g8, Nat.reduceEqDiff, Nat.reduceAdd, false_and, and_false, true_and, and_true, reduceIte, nZ0, nZ1, eσ112_38.1, eσ112_38.2, eσ112_81.1, eσ112_81.2, fun a k => (jσ112 a k).1, fun a k => (jσ112 a k).2, pσ112]) <;> (first | omega | with_reducible assumption | (unfold rng; omega) | (unfold rng; (repeat' split) <;> omega) | grind)
                          · rename_i hc349
                            skip
                            unfold w_X16_takeRow_352
                            try simp only [forall_eq, rII, rIJ, rIP, rJJ, rJI, rJP, rPP, rPI, rPJ, g1, g2, g3, g4, g5, g6, g7, g8, Nat.reduceEqDiff, Nat.reduceAdd, false_and, and_false, true_and, and_true, reduceIte, nZ0, nZ1, eσ112_38.1, eσ112_38.2, eσ112_81.1, eσ112_81.2, fun a k => (jσ112 a k).1, fun a k => (jσ112 a k).2, pσ112]
                            refine ⟨by (first | omega | with_reducible assumption | (unfold rng; omega) | (unfold rng; (repeat' split) <;> omega) | grind), ?_⟩
                            refine ⟨by (first | omega | with_reducible assumption | (unfold rng; omega) | (unfold rng; (repeat' split) <;> omega) | grind), ?_⟩
                            have q47 := rσ112.1 42 (v1.toNat); simp only [rgT] at q47
                            refine hQ _ _ ?_ ?_ ?_
                            · refine Rg.aI g ?_ (by simp only [rgT]; first | with_reducible exact nZ_rng _ | with_reducible exact nB_rng _ | with_reducible exact wr_rng _ | with_reducible exact i32any _ | (first | omega | with_reducible assumption | (unfold rng; omega) | (unfold rng; (repeat' split) <;> omega) | grind)); exact rσ112
                            · refine Fr.aI g ?_ (by decide); exact fσ112
                            · exact ⟨ThE.fr (jx := jx) (K := [42]) (S := []) t9 (by repeat (first | exact Fr.rf | assumption | refine Fr.aJ g ?_ (by decide) | refine Fr.aI g ?_ (by decide) | refine Fr.sI g ?_ (by decide) | refine Fr.sJ g ?_ (by decide))) (by decide) (by decide), RecE.fr (K := [42]) (S := []) r9 (by repeat (first | exact Fr.rf | assumption | refine Fr.aJ g ?_ (by decide) | refine Fr.aI g ?_ (by decide) | refine Fr.sI g ?_ (by decide) | refine Fr.sJ g ?_ (by decide))) (by decide) (by decide), HeE.fr (jx := jx) (K := [42]) (S := []) e9 (by repeat (first | exact Fr.rf | assumption | refine Fr.aJ g ?_ (by decide) | refine Fr.aI g ?_ (by decide) | refine Fr.sI g ?_ (by decide) | refine Fr.sJ g ?_ (by decide))) (by decide) (by decide)⟩
                    refine ⟨_, L299 _ _ _ ?_ ?_ ?_ (Nat.lt_succ_self _)⟩
                    · exact rσ
                    · exact fσ
                    · first | exact ⟨⟨t9, r9, e9⟩, by omega, by omega⟩
                  · rw [if_neg hc47_7]
                    by_cases hc47_10 : (gI σ (jx ja 2) (gI σ (ra 38) v1.toNat).toNat) = 11
                    · rw [if_pos hc47_10]
                      unfold w_X16_takeRow_403
                      try simp only [forall_eq, rII, rIJ, rIP, rJJ, rJI, rJP, rPP, rPI, rPJ, g1, g2, g3, g4, g5, g6, g7, g8, Nat.reduceEqDiff, Nat.reduceAdd, false_and, and_false, true_and, and_true, reduceIte, nZ0, nZ1]
                      refine s_X16_outputOf g rσ (by first | exact hj | (rw [fσ.2.2.2]; exact hj)) hja (by (try simp only [rII, rIJ, rIP, rJJ, rJI, rJP, rPP, rPI, rPJ, g1, g2, g3, g4, g5, g6, g7, g8, Nat.reduceEqDiff, Nat.reduceAdd, false_and, and_false, true_and, and_true, reduceIte, nZ0, nZ1]) <;> (first | omega | with_reducible assumption | (unfold rng; omega) | (unfold rng; (repeat' split) <;> omega) | grind)) (fun r116 p48 => ?_)
                      try simp only [forall_eq, rII, rIJ, rIP, rJJ, rJI, rJP, rPP, rPI, rPJ, g1, g2, g3, g4, g5, g6, g7, g8, Nat.reduceEqDiff, Nat.reduceAdd, false_and, and_false, true_and, and_true, reduceIte, nZ0, nZ1]
                      have m9 := cO_mono (jx := jx) (ja := ja) (σ := σ) (n := (gI σ (ra 38) v1.toNat) + 1) (m := gI σ ja 0) (by omega) (by omega)
                      have c9 := cO_succ (jx := jx) (ja := ja) (σ := σ) (n := (gI σ (ra 38) v1.toNat)) (by omega)
                      rw [if_pos (by assumption)] at c9
                      have hj9 := hjo.1
                      have p9 := p48
                      have q49 := rσ.2.2.1 ja 4 ((gI σ (ra 38) v1.toNat).toNat); simp only [rgJ] at q49
                      refine s_X16_pend g rσ (by exact e9) (by (try simp only [rII, rIJ, rIP, rJJ, rJI, rJP, rPP, rPI, rPJ, g1, g2, g3, g4, g5, g6, g7, g8, Nat.reduceEqDiff, Nat.reduceAdd, false_and, and_false, true_and, and_true, reduceIte, nZ0, nZ1]) <;> (first | omega | with_reducible assumption | (unfold rng; omega) | (unfold rng; (repeat' split) <;> omega) | grind)) h3 (by (try simp only [rII, rIJ, rIP, rJJ, rJI, rJP, rPP, rPI, rPJ, g1, g2, g3, g4, g5, g6, g7, g8, Nat.reduceEqDiff, Nat.reduceAdd, false_and, and_false, true_and, and_true, reduceIte, nZ0, nZ1]) <;> (first | omega | with_reducible assumption | (unfold rng; omega) | (unfold rng; (repeat' split) <;> omega) | grind)) (fun σ117 _ rσ117 fc p50 => ?_) (fun σx E rx fx px => hX _ _ rx (Fr.tr fσ (Fr.mor (fx) (by decide) (by decide))) ⟨px.1, ThE.fr t9 fx (by decide) (by decide), RecE.fr r9 fx (by decide) (by decide), px.2⟩)
                      have fσ117 : Fr ra jx rm [20, 26, 42, 46, 47, 48, 49, 60, 61, 62, 63, 64, 65, 68, 69, 70, 71, 72, 73, 74, 75, 76, 77, 78, 82, 83, 84, 85, 86, 87, 88, 89] [21, 27, 66, 67, 79, 80, 90, 91] σ σ117 := Fr.tr fσ (Fr.mor (fc) (by decide) (by decide))
                      have t9 := ThE.fr t9 fc (by decide) (by decide)
                      have r9 := RecE.fr r9 fc (by decide) (by decide)
                      have e9 := p50
                      have eσ117_38 := fσ117.1 38 (by decide)
                      have eσ117_81 := fσ117.1 81 (by decide)
                      have jσ117 := fσ117.2.2.1
                      have pσ117 := fσ117.2.2.2
                      try simp only [forall_eq, rII, rIJ, rIP, rJJ, rJI, rJP, rPP, rPI, rPJ, g1, g2, g3, g4, g5, g6, g7, g8, Nat.reduceEqDiff, Nat.reduceAdd, false_and, and_false, true_and, and_true, reduceIte, nZ0, nZ1, eσ117_38.1, eσ117_38.2, eσ117_81.1, eσ117_81.2, fun a k => (jσ117 a k).1, fun a k => (jσ117 a k).2, pσ117]
                      unfold w_X16_takeRow_452
                      try simp only [forall_eq, rII, rIJ, rIP, rJJ, rJI, rJP, rPP, rPI, rPJ, g1, g2, g3, g4, g5, g6, g7, g8, Nat.reduceEqDiff, Nat.reduceAdd, false_and, and_false, true_and, and_true, reduceIte, nZ0, nZ1, eσ117_38.1, eσ117_38.2, eσ117_81.1, eσ117_81.2, fun a k => (jσ117 a k).1, fun a k => (jσ117 a k).2, pσ117]
                      refine hQ _ _ ?_ ?_ ?_
                      · exact rσ117
                      · exact fσ117
                      · exact ⟨ThE.fr (jx := jx) (K := [42]) (S := []) t9 (by repeat (first | exact Fr.rf | assumption | refine Fr.aJ g ?_ (by decide) | refine Fr.aI g ?_ (by decide) | refine Fr.sI g ?_ (by decide) | refine Fr.sJ g ?_ (by decide))) (by decide) (by decide), RecE.fr (K := [42]) (S := []) r9 (by repeat (first | exact Fr.rf | assumption | refine Fr.aJ g ?_ (by decide) | refine Fr.aI g ?_ (by decide) | refine Fr.sI g ?_ (by decide) | refine Fr.sJ g ?_ (by decide))) (by decide) (by decide), HeE.fr (jx := jx) (K := [42]) (S := []) e9 (by repeat (first | exact Fr.rf | assumption | refine Fr.aJ g ?_ (by decide) | refine Fr.aI g ?_ (by decide) | refine Fr.sI g ?_ (by decide) | refine Fr.sJ g ?_ (by decide))) (by decide) (by decide)⟩
                    · rw [if_neg hc47_10]
                      unfold w_X16_takeRow_421
                      try simp only [forall_eq, rII, rIJ, rIP, rJJ, rJI, rJP, rPP, rPI, rPJ, g1, g2, g3, g4, g5, g6, g7, g8, Nat.reduceEqDiff, Nat.reduceAdd, false_and, and_false, true_and, and_true, reduceIte, nZ0, nZ1]
                      refine ⟨ja, by exact hj, hja, ?_⟩
                      refine ⟨by (first | omega | with_reducible assumption | (unfold rng; omega) | (unfold rng; (repeat' split) <;> omega) | grind), ?_⟩
                      have q51 := rσ.2.2.1 ja 10 ((gI σ (ra 38) v1.toNat).toNat); simp only [rgJ] at q51
                      refine ⟨by (first | omega | with_reducible assumption | (unfold rng; omega) | (unfold rng; (repeat' split) <;> omega) | grind), ?_⟩
                      refine s_X16_record (b9 := (ra 81)) (n9 := 8) g rσ rfl (Or.inl ⟨81, rfl, by decide⟩) (by with_reducible assumption) (by (try simp only [rII, rIJ, rIP, rJJ, rJI, rJP, rPP, rPI, rPJ, g1, g2, g3, g4, g5, g6, g7, g8, Nat.reduceEqDiff, Nat.reduceAdd, false_and, and_false, true_and, and_true, reduceIte, nZ0, nZ1]) <;> (first | omega | with_reducible assumption | (unfold rng; omega) | (unfold rng; (repeat' split) <;> omega) | grind)) (by (try simp only [rII, rIJ, rIP, rJJ, rJI, rJP, rPP, rPI, rPJ, g1, g2, g3, g4, g5, g6, g7, g8, Nat.reduceEqDiff, Nat.reduceAdd, false_and, and_false, true_and, and_true, reduceIte, nZ0, nZ1]) <;> (first | omega | with_reducible assumption | (unfold rng; omega) | (unfold rng; (repeat' split) <;> omega) | grind)) h3 (by (try simp only [rII, rIJ, rIP, rJJ, rJI, rJP, rPP, rPI, rPJ, g1, g2, g3, g4, g5, g6, g7, g8, Nat.reduceEqDiff, Nat.reduceAdd, false_and, and_false, true_and, and_true, reduceIte, nZ0, nZ1]) <;> (first | omega | with_reducible assumption | (unfold rng; omega) | (unfold rng; (repeat' split) <;> omega) | grind)) (by (try simp only [rII, rIJ, rIP, rJJ, rJI, rJP, rPP, rPI, rPJ, g1, g2, g3, g4, g5, g6, g7, g8, Nat.reduceEqDiff, Nat.reduceAdd, false_and, and_false, true_and, and_true, reduceIte, nZ0, nZ1]) <;> (first | omega | with_reducible assumption | (unfold rng; omega) | (unfold rng; (repeat' split) <;> omega) | grind)) (by (try simp only [rII, rIJ, rIP, rJJ, rJI, rJP, rPP, rPI, rPJ, g1, g2, g3, g4, g5, g6, g7, g8, Nat.reduceEqDiff, Nat.reduceAdd, false_and, and_false, true_and, and_true, reduceIte, nZ0, nZ1]) <;> (first | omega | with_reducible assumption | (unfold rng; omega) | (unfold rng; (repeat' split) <;> omega) | grind)) (fun σ119 r120 rσ119 fc p52 => ?_) (fun σx E rx fx px => hX _ _ rx (Fr.tr fσ (Fr.mor (fx) (by decide) (by decide))) (by obtain ⟨e1, e2⟩ := px; subst e2; exact ⟨e1, t9, r9, e9⟩))
                      have fσ119 : Fr ra jx rm [20, 26, 42, 46, 47, 48, 49, 60, 61, 62, 63, 64, 65, 68, 69, 70, 71, 72, 73, 74, 75, 76, 77, 78, 82, 83, 84, 85, 86, 87, 88, 89] [21, 27, 66, 67, 79, 80, 90, 91] σ σ119 := Fr.tr fσ (Fr.mor (fc) (by decide) (by decide))
                      have t9 := ThE.fr t9 fc (by decide) (by decide)
                      have e9 := HeE.fr e9 fc (by decide) (by decide)
                      have me8 := MtI.more hm0 fc (by decide) h1 p52.2.2.2.1 p52.2.2.2.2.1 p52.2.2.2.2.2 (fun a ha => (hr0.2.2.1 a (by omega)).1) (fun q w => by first | omega | (exfalso; (try simp only [rII, rIJ, rIP, rJJ, rJI, rJP, rPP, rPI, rPJ, g1, g2, g3, g4, g5, g6, g7, g8, Nat.reduceEqDiff, Nat.reduceAdd, false_and, and_false, true_and, and_true, reduceIte, nZ0, nZ1] at q) <;> omega))
                      have r9 : RecE ra jx rm ja σ119 := ⟨_, _, p52.1, me8⟩
                      have eσ119_38 := fσ119.1 38 (by decide)
                      have eσ119_81 := fσ119.1 81 (by decide)
                      have jσ119 := fσ119.2.2.1
                      have pσ119 := fσ119.2.2.2
                      try simp only [forall_eq, rII, rIJ, rIP, rJJ, rJI, rJP, rPP, rPI, rPJ, g1, g2, g3, g4, g5, g6, g7, g8, Nat.reduceEqDiff, Nat.reduceAdd, false_and, and_false, true_and, and_true, reduceIte, nZ0, nZ1, eσ119_38.1, eσ119_38.2, eσ119_81.1, eσ119_81.2, fun a k => (jσ119 a k).1, fun a k => (jσ119 a k).2, pσ119]
                      unfold w_X16_takeRow_452
                      try simp only [forall_eq, rII, rIJ, rIP, rJJ, rJI, rJP, rPP, rPI, rPJ, g1, g2, g3, g4, g5, g6, g7, g8, Nat.reduceEqDiff, Nat.reduceAdd, false_and, and_false, true_and, and_true, reduceIte, nZ0, nZ1, eσ119_38.1, eσ119_38.2, eσ119_81.1, eσ119_81.2, fun a k => (jσ119 a k).1, fun a k => (jσ119 a k).2, pσ119]
                      refine hQ _ _ ?_ ?_ ?_
                      · exact rσ119
                      · exact fσ119
                      · exact ⟨ThE.fr (jx := jx) (K := [42]) (S := []) t9 (by repeat (first | exact Fr.rf | assumption | refine Fr.aJ g ?_ (by decide) | refine Fr.aI g ?_ (by decide) | refine Fr.sI g ?_ (by decide) | refine Fr.sJ g ?_ (by decide))) (by decide) (by decide), RecE.fr (K := [42]) (S := []) r9 (by repeat (first | exact Fr.rf | assumption | refine Fr.aJ g ?_ (by decide) | refine Fr.aI g ?_ (by decide) | refine Fr.sI g ?_ (by decide) | refine Fr.sJ g ?_ (by decide))) (by decide) (by decide), HeE.fr (jx := jx) (K := [42]) (S := []) e9 (by repeat (first | exact Fr.rf | assumption | refine Fr.aJ g ?_ (by decide) | refine Fr.aI g ?_ (by decide) | refine Fr.sI g ?_ (by decide) | refine Fr.sJ g ?_ (by decide))) (by decide) (by decide)⟩
set_option maxHeartbeats 8000000 in
theorem s_X16_topOf {ra : Nat → Nat} {jx : Nat → Nat → Nat} {rm : Nat} {ja : Nat} (g : Geo ra jx rm) {σ : Sg} {v1 : Int} {v2 : Int} {v3 : Int64} {v5 : Int} {v6 : Int64} (rσ : Rg ra jx rm σ) (hj : gP σ rm 17 = some ja) (hja : ja = ra 15 ∨ ja = ra 16) (hw : ∃ own ps r0, RecI ra rm σ own ps ∧ MtI ra jx ja σ own ∧ own r0 = v1 ∧ gJ σ (ra 71) r0.toNat / v6 = v3) (hth : ThE ra rm σ) (h1 : 0 ≤ v1 ∧ v1 < 64) (h2 : 0 ≤ v2 ∧ v2 < 16) (h5 : 0 ≤ v5 ∧ v5 ≤ 7) (h6 : 1 ≤ v6.toInt) (hem : (v3 * v6 + v6 - 1).toInt ≤ 4611686018427387904) (hon : 1 ≤ (gJ σ (jx ja 8) v2.toNat).toInt ∧ (gJ σ (jx ja 8) v2.toNat).toInt ≤ 9) (hp : 1 ≤ gI σ rm 33) {Q : Sg → Unit → Prop} {X : Sg → String → Prop} (hQ : ∀ (σ' : Sg) (r : Unit), Rg ra jx rm σ' → Fr ra jx rm [46, 47, 48, 49, 60, 61, 62, 63, 64, 65, 75, 76, 77, 78, 82] [66, 67, 79, 80] σ σ' → ((RecE ra jx rm ja σ' ∧ ThE ra rm σ') ∧ gI σ' (ra 78) v1.toNat < gI σ (ra 78) v1.toNat) → Q σ' r) (hX : ∀ (σ' : Sg) (E : String), Rg ra jx rm σ' → Fr ra jx rm [46, 47, 48, 49, 60, 61, 62, 63, 64, 65, 75, 76, 77, 78, 82] [66, 67, 79, 80] σ σ' → (E = "StreamHouseModel$Broken" ∧ ThE ra rm σ' ∧ RecE ra jx rm ja σ') → X σ' E) : wp_X16_topOf ra jx rm v1 v2 v3 v5 v6 σ Q X := by
  obtain ⟨g1, g2, g3, g4, g5, g6, g7, g8⟩ := id g
  have fσ : Fr ra jx rm [46, 47, 48, 49, 60, 61, 62, 63, 64, 65, 75, 76, 77, 78, 82] [66, 67, 79, 80] σ σ := Fr.rf
  obtain ⟨own0, ps0, r0, hr0, hm0, ho0, hk0⟩ := hw
  have h60 : v6 ≠ 0 := fun q => by rw [q] at h6; exact absurd h6 (by decide)
  unfold wp_X16_topOf
  unfold w_X16_topOf_0
  try simp only [forall_eq, rII, rIJ, rIP, rJJ, rJI, rJP, rPP, rPI, rPJ, g1, g2, g3, g4, g5, g6, g7, g8, Nat.reduceEqDiff, Nat.reduceAdd, false_and, and_false, true_and, and_true, reduceIte, nZ0, nZ1]
  refine ⟨ja, by exact hj, hja, ?_⟩
  refine ⟨by (first | omega | with_reducible assumption | (unfold rng; omega) | (unfold rng; (repeat' split) <;> omega) | grind), ?_⟩
  have q1 := rσ.1 78 (v1.toNat); simp only [rgT] at q1
  have q2 := rσ.2.2.1 ja 10 (v2.toNat); simp only [rgJ] at q2
  have L14 : ∀ (fu14 : Nat) (τ14 : Sg) (v9 : Int), Rg ra jx rm τ14 → Fr ra jx rm [46, 47, 48, 49, 60, 61, 62, 63, 64, 65, 75, 76, 77, 78, 82] [66, 67, 79, 80] σ τ14 → (∃ own ps, (((RecI ra rm τ14 own ps ∧ MtI ra jx ja τ14 own) ∧ ThE ra rm τ14) ∧ (1 ≤ v9 ∧ v9 ≤ 10) ∧ (v9 = 1 → own = own0 ∧ ps = ps0) ∧ gI τ14 (ra 78) v1.toNat ≤ gI σ (ra 78) v1.toNat ∧ (v9 ≠ 1 → gI τ14 (ra 78) v1.toNat < gI σ (ra 78) v1.toNat)) ∧ ((11 - v9).toNat) < fu14) → (0) < 1 + 0 * 14 → wl_X16_topOf_14 ra jx rm Q X fu14 τ14 v1 v2 v3 v5 v6 (gI σ (jx ja 10) v2.toNat) v9 := by
    intro fu14
    induction fu14 with
    | zero => intro τ14 _ _ _ h9 _; obtain ⟨_, _, h9⟩ := h9; omega
    | succ fu14 ih14 =>
      intro τ14 v9 rτ14 fτ14 hi14 hm14
      obtain ⟨own, ps, hi14, hm14⟩ := hi14
      unfold wl_X16_topOf_14
      have eτ14_71 := fτ14.1 71 (by decide)
      have eτ14_73 := fτ14.1 73 (by decide)
      have eτ14_74 := fτ14.1 74 (by decide)
      have jτ14 := fτ14.2.2.1
      have pτ14 := fτ14.2.2.2
      unfold w_X16_topOf_14
      try simp only [forall_eq, rII, rIJ, rIP, rJJ, rJI, rJP, rPP, rPI, rPJ, g1, g2, g3, g4, g5, g6, g7, g8, Nat.reduceEqDiff, Nat.reduceAdd, false_and, and_false, true_and, and_true, reduceIte, nZ0, nZ1, eτ14_71.1, eτ14_71.2, eτ14_73.1, eτ14_73.2, eτ14_74.1, eτ14_74.2, fun a k => (jτ14 a k).1, fun a k => (jτ14 a k).2, pτ14]
      have hrA := hi14.1.1.1; have hmA := hi14.1.1.2; have htA := hi14.1.2; have i1 := hi14.2.1; have i3 := hi14.2.2.2.1; have i4 := hi14.2.2.2.2
      have w64 := i64o (v := v9) (a := gJ σ (jx ja 8) v2.toNat) (by omega) (by omega)
      have nr0 : v9 = 1 → own r0 = v1 ∧ ps r0 < gI τ14 (ra 78) v1.toNat := fun q => by have e := hi14.2.2.1 q; have o := (show own r0 = v1 by rw [e.1]; exact ho0); exact ⟨o, (hrA.nd o h1).2.2.1⟩
      have w41 : v9 = 1 → own (gI τ14 (ra 76) v1.toNat) = v1 ∧ ps (gI τ14 (ra 76) v1.toNat) ≤ ps r0 := fun q => by have z := hrA.hd0 (nr0 q).1 h1; have y := hrA.nd (nr0 q).1 h1; exact ⟨z.1, by omega⟩
      refine ⟨ja, by exact hj, hja, ?_⟩
      refine ⟨by (first | omega | with_reducible assumption | (unfold rng; omega) | (unfold rng; (repeat' split) <;> omega) | grind), ?_⟩
      split
      · rename_i hc27
        skip
        unfold w_X16_topOf_262
        try simp only [forall_eq, rII, rIJ, rIP, rJJ, rJI, rJP, rPP, rPI, rPJ, g1, g2, g3, g4, g5, g6, g7, g8, Nat.reduceEqDiff, Nat.reduceAdd, false_and, and_false, true_and, and_true, reduceIte, nZ0, nZ1, eτ14_71.1, eτ14_71.2, eτ14_73.1, eτ14_73.2, eτ14_74.1, eτ14_74.2, fun a k => (jτ14 a k).1, fun a k => (jτ14 a k).2, pτ14]
        have hlt := i4 (by have w9 := w64.1 (by assumption); omega)
        refine ⟨by (first | omega | with_reducible assumption | (unfold rng; omega) | (unfold rng; (repeat' split) <;> omega) | grind), ?_⟩
        have q3 := rτ14.1 76 (v1.toNat); simp only [rgT] at q3
        have L270 : ∀ (fu270 : Nat) (τ270 : Sg) (v9 : Int), Rg ra jx rm τ270 → Fr ra jx rm [46, 47, 48, 49, 60, 61, 62, 63, 64, 65, 75, 76, 77, 78, 82] [66, 67, 79, 80] σ τ270 → (∃ own ps, ((((RecI ra rm τ270 own ps ∧ MtI ra jx ja τ270 own) ∧ ThE ra rm τ270) ∧ (v9 = -1 ∨ own v9 = v1)) ∧ gI τ270 (ra 78) v1.toNat < gI σ (ra 78) v1.toNat) ∧ (lmm ra τ270 v1 ps v9) < fu270) → (0) < 1 + 0 * 270 → wl_X16_topOf_270 ra jx rm Q X fu270 τ270 v3 v6 v9 := by
          intro fu270
          induction fu270 with
          | zero => intro τ270 _ _ _ h9 _; obtain ⟨_, _, h9⟩ := h9; omega
          | succ fu270 ih270 =>
            intro τ270 v9 rτ270 fτ270 hi270 hm270
            obtain ⟨own, ps, hi270, hm270⟩ := hi270
            unfold wl_X16_topOf_270
            have eτ270_71 := fτ270.1 71 (by decide)
            have eτ270_73 := fτ270.1 73 (by decide)
            have eτ270_74 := fτ270.1 74 (by decide)
            have jτ270 := fτ270.2.2.1
            have pτ270 := fτ270.2.2.2
            unfold w_X16_topOf_270
            try simp only [forall_eq, rII, rIJ, rIP, rJJ, rJI, rJP, rPP, rPI, rPJ, g1, g2, g3, g4, g5, g6, g7, g8, Nat.reduceEqDiff, Nat.reduceAdd, false_and, and_false, true_and, and_true, reduceIte, nZ0, nZ1, eτ270_71.1, eτ270_71.2, eτ270_73.1, eτ270_73.2, eτ270_74.1, eτ270_74.2, fun a k => (jτ270 a k).1, fun a k => (jτ270 a k).2, pτ270]
            split
            · rename_i hc273
              skip
              unfold w_X16_topOf_313
              try simp only [forall_eq, rII, rIJ, rIP, rJJ, rJI, rJP, rPP, rPI, rPJ, g1, g2, g3, g4, g5, g6, g7, g8, Nat.reduceEqDiff, Nat.reduceAdd, false_and, and_false, true_and, and_true, reduceIte, nZ0, nZ1, eτ270_71.1, eτ270_71.2, eτ270_73.1, eτ270_73.2, eτ270_74.1, eτ270_74.2, fun a k => (jτ270 a k).1, fun a k => (jτ270 a k).2, pτ270]
              refine hQ _ _ ?_ ?_ ?_
              · exact rτ270
              · exact fτ270
              · exact ⟨⟨⟨_, _, hi270.1.1.1.1, hi270.1.1.1.2⟩, hi270.1.1.2⟩, hi270.2⟩
            · rename_i hc273
              skip
              unfold w_X16_topOf_276
              try simp only [forall_eq, rII, rIJ, rIP, rJJ, rJI, rJP, rPP, rPI, rPJ, g1, g2, g3, g4, g5, g6, g7, g8, Nat.reduceEqDiff, Nat.reduceAdd, false_and, and_false, true_and, and_true, reduceIte, nZ0, nZ1, eτ270_71.1, eτ270_71.2, eτ270_73.1, eτ270_73.2, eτ270_74.1, eτ270_74.2, fun a k => (jτ270 a k).1, fun a k => (jτ270 a k).2, pτ270]
              have hrA := hi270.1.1.1.1; have hmA := hi270.1.1.1.2; have htA := hi270.1.1.2; have hlt := hi270.2
              have hov := hi270.1.2.resolve_left (by assumption)
              have n9 := hrA.nd hov h1
              refine ⟨by (first | omega | with_reducible assumption | (unfold rng; omega) | (unfold rng; (repeat' split) <;> omega) | grind), ?_⟩
              refine ⟨by (first | omega | with_reducible assumption | (unfold rng; omega) | (unfold rng; (repeat' split) <;> omega) | grind), ?_⟩
              refine ⟨by (first | omega | with_reducible assumption | (unfold rng; omega) | (unfold rng; (repeat' split) <;> omega) | grind), ?_⟩
              split
              · rename_i hc297
                skip
                unfold w_X16_topOf_306
                try simp only [forall_eq, rII, rIJ, rIP, rJJ, rJI, rJP, rPP, rPI, rPJ, g1, g2, g3, g4, g5, g6, g7, g8, Nat.reduceEqDiff, Nat.reduceAdd, false_and, and_false, true_and, and_true, reduceIte, nZ0, nZ1, eτ270_71.1, eτ270_71.2, eτ270_73.1, eτ270_73.2, eτ270_74.1, eτ270_74.2, fun a k => (jτ270 a k).1, fun a k => (jτ270 a k).2, pτ270]
                have q4 := rτ270.1 75 (v9.toNat); simp only [rgT] at q4
                refine ih270 _ _ ?_ ?_ ?_ ?_
                · exact rτ270
                · exact fτ270
                · first | exact addN (stepDT hrA hmA htA h1 hov p9 fc9 hm270) (by omega) | exact addN (stepKT hrA hmA htA h1 hov hm270) (by omega)
                · omega
              · rename_i hc297
                skip
                unfold w_X16_topOf_300
                try simp only [forall_eq, rII, rIJ, rIP, rJJ, rJI, rJP, rPP, rPI, rPJ, g1, g2, g3, g4, g5, g6, g7, g8, Nat.reduceEqDiff, Nat.reduceAdd, false_and, and_false, true_and, and_true, reduceIte, nZ0, nZ1, eτ270_71.1, eτ270_71.2, eτ270_73.1, eτ270_73.2, eτ270_74.1, eτ270_74.2, fun a k => (jτ270 a k).1, fun a k => (jτ270 a k).2, pτ270]
                refine s_X16_drop g rτ270 (by assumption) h1 hov (fun σ21 _ rσ21 fc p5 => ?_)
                have fσ21 : Fr ra jx rm [46, 47, 48, 49, 60, 61, 62, 63, 64, 65, 75, 76, 77, 78, 82] [66, 67, 79, 80] σ σ21 := Fr.tr fτ270 (Fr.mor (fc) (by decide) (by decide))
                have p9 := p5
                have fc9 := fc
                have pd := p5
                have re9 := pd.1
                have q78 := pd.2
                have td := ThE.fr (by assumption) fc (by decide) (by decide)
                have pe9 := td
                have eσ21_71 := fσ21.1 71 (by decide)
                have eσ21_73 := fσ21.1 73 (by decide)
                have eσ21_74 := fσ21.1 74 (by decide)
                have jσ21 := fσ21.2.2.1
                have pσ21 := fσ21.2.2.2
                try simp only [forall_eq, rII, rIJ, rIP, rJJ, rJI, rJP, rPP, rPI, rPJ, g1, g2, g3, g4, g5, g6, g7, g8, Nat.reduceEqDiff, Nat.reduceAdd, false_and, and_false, true_and, and_true, reduceIte, nZ0, nZ1, eσ21_71.1, eσ21_71.2, eσ21_73.1, eσ21_73.2, eσ21_74.1, eσ21_74.2, fun a k => (jσ21 a k).1, fun a k => (jσ21 a k).2, pσ21]
                unfold w_X16_topOf_306
                try simp only [forall_eq, rII, rIJ, rIP, rJJ, rJI, rJP, rPP, rPI, rPJ, g1, g2, g3, g4, g5, g6, g7, g8, Nat.reduceEqDiff, Nat.reduceAdd, false_and, and_false, true_and, and_true, reduceIte, nZ0, nZ1, eσ21_71.1, eσ21_71.2, eσ21_73.1, eσ21_73.2, eσ21_74.1, eσ21_74.2, fun a k => (jσ21 a k).1, fun a k => (jσ21 a k).2, pσ21]
                have q6 := rτ270.1 75 (v9.toNat); simp only [rgT] at q6
                refine ih270 _ _ ?_ ?_ ?_ ?_
                · exact rσ21
                · exact fσ21
                · first | exact addN (stepDT hrA hmA htA h1 hov p9 fc9 hm270) (by omega) | exact addN (stepKT hrA hmA htA h1 hov hm270) (by omega)
                · omega
        refine ⟨(lmm ra τ14 v1 ps (gI τ14 (ra 76) v1.toNat)) + 1, L270 _ _ _ ?_ ?_ ?_ (by omega)⟩
        · exact rτ14
        · exact fτ14
        · exact ⟨own, ps, ⟨⟨⟨⟨hrA, hmA⟩, htA⟩, hrA.hd h1⟩, hlt⟩, Nat.lt_succ_self _⟩
      · rename_i hc27
        skip
        unfold w_X16_topOf_30
        try simp only [forall_eq, rII, rIJ, rIP, rJJ, rJI, rJP, rPP, rPI, rPJ, g1, g2, g3, g4, g5, g6, g7, g8, Nat.reduceEqDiff, Nat.reduceAdd, false_and, and_false, true_and, and_true, reduceIte, nZ0, nZ1, eτ14_71.1, eτ14_71.2, eτ14_73.1, eτ14_73.2, eτ14_74.1, eτ14_74.2, fun a k => (jτ14 a k).1, fun a k => (jτ14 a k).2, pτ14]
        have w9 := w64.2 (by assumption)
        refine ⟨by (first | omega | with_reducible assumption | (unfold rng; omega) | (unfold rng; (repeat' split) <;> omega) | grind), ?_⟩
        have q7 := rτ14.1 76 (v1.toNat); simp only [rgT] at q7
        have L41 : ∀ (fu41 : Nat) (v10 : Int) (v11 : Int), ((v11 = -1 ∨ own v11 = v1) ∧ (v10 = -1 ∨ (own v10 = v1 ∧ 0 ≤ v10 ∧ v10 < 4000)) ∧ (v9 = 1 → v10 = -1 → own v11 = v1 ∧ ps v11 ≤ ps r0)) → ((if v11 < 0 then 0 else gI τ14 (ra 78) v1.toNat - ps v11).toNat) < fu41 → wl_X16_topOf_41 ra jx rm (wl_X16_topOf_14 ra jx rm Q X fu14) Q X fu41 τ14 v1 v2 v3 v5 v6 (gI σ (jx ja 10) v2.toNat) v9 v10 v11 := by
          intro fu41
          induction fu41 with
          | zero => intro  _ _ _ h9; omega
          | succ fu41 ih41 =>
            intro v10 v11 hi41 hm41
            unfold wl_X16_topOf_41
            unfold w_X16_topOf_41
            try simp only [forall_eq, rII, rIJ, rIP, rJJ, rJI, rJP, rPP, rPI, rPJ, g1, g2, g3, g4, g5, g6, g7, g8, Nat.reduceEqDiff, Nat.reduceAdd, false_and, and_false, true_and, and_true, reduceIte, nZ0, nZ1, eτ14_71.1, eτ14_71.2, eτ14_73.1, eτ14_73.2, eτ14_74.1, eτ14_74.2, fun a k => (jτ14 a k).1, fun a k => (jτ14 a k).2, pτ14]
            split
            · rename_i hc44
              skip
              unfold w_X16_topOf_157
              try simp only [forall_eq, rII, rIJ, rIP, rJJ, rJI, rJP, rPP, rPI, rPJ, g1, g2, g3, g4, g5, g6, g7, g8, Nat.reduceEqDiff, Nat.reduceAdd, false_and, and_false, true_and, and_true, reduceIte, nZ0, nZ1, eτ14_71.1, eτ14_71.2, eτ14_73.1, eτ14_73.2, eτ14_74.1, eτ14_74.2, fun a k => (jτ14 a k).1, fun a k => (jτ14 a k).2, pτ14]
              have h91 : v9 = 1 → v10 = -1 → False := fun a b => by have z := hrA.nd (hi41.2.2 a b).1 h1; omega
              split
              · rename_i hc160
                skip
                unfold w_X16_topOf_256
                try simp only [forall_eq, rII, rIJ, rIP, rJJ, rJI, rJP, rPP, rPI, rPJ, g1, g2, g3, g4, g5, g6, g7, g8, Nat.reduceEqDiff, Nat.reduceAdd, false_and, and_false, true_and, and_true, reduceIte, nZ0, nZ1, eτ14_71.1, eτ14_71.2, eτ14_73.1, eτ14_73.2, eτ14_74.1, eτ14_74.2, fun a k => (jτ14 a k).1, fun a k => (jτ14 a k).2, pτ14]
                refine ⟨by (first | omega | with_reducible assumption | (unfold rng; omega) | (unfold rng; (repeat' split) <;> omega) | grind), ?_⟩
                refine ih14 _ _ ?_ ?_ ?_ ?_
                · exact rτ14
                · exact fτ14
                · first | exact ⟨_, _, ⟨⟨⟨re9, me9⟩, pe9⟩, by omega, fun q => absurd q (by omega), by omega, fun _ => by omega⟩, by omega⟩ | exact ⟨own, ps, ⟨hi14.1, by omega, fun q => absurd q (by omega), by omega, fun _ => by first | omega | grind⟩, by omega⟩
                · omega
              · rename_i hc160
                skip
                unfold w_X16_topOf_163
                try simp only [forall_eq, rII, rIJ, rIP, rJJ, rJI, rJP, rPP, rPI, rPJ, g1, g2, g3, g4, g5, g6, g7, g8, Nat.reduceEqDiff, Nat.reduceAdd, false_and, and_false, true_and, and_true, reduceIte, nZ0, nZ1, eτ14_71.1, eτ14_71.2, eτ14_73.1, eτ14_73.2, eτ14_74.1, eτ14_74.2, fun a k => (jτ14 a k).1, fun a k => (jτ14 a k).2, pτ14]
                have ho10 := hi41.2.1.resolve_left (by assumption)
                have hov := ho10.1
                have L166 : ∀ (fu166 : Nat) (τ166 : Sg) (v11 : Int), Rg ra jx rm τ166 → Fr ra jx rm [46, 47, 48, 49, 60, 61, 62, 63, 64, 65, 75, 76, 77, 78, 82] [66, 67, 79, 80] σ τ166 → (RecI ra rm τ166 own ps ∧ MtI ra jx ja τ166 own ∧ ThE ra rm τ166 ∧ gI τ166 (ra 78) v1.toNat = gI τ14 (ra 78) v1.toNat ∧ 0 ≤ v11 ∧ v11 ≤ 8) → ((8 - v11).toNat) < fu166 → wl_X16_topOf_166 ra jx rm (wl_X16_topOf_14 ra jx rm Q X fu14) Q X fu166 τ166 v1 v2 v3 v5 v6 (gI σ (jx ja 10) v2.toNat) v9 v10 v11 := by
                  intro fu166
                  induction fu166 with
                  | zero => intro τ166 _ _ _ _ h9; omega
                  | succ fu166 ih166 =>
                    intro τ166 v11 rτ166 fτ166 hi166 hm166
                    unfold wl_X16_topOf_166
                    have eτ166_71 := fτ166.1 71 (by decide)
                    have eτ166_73 := fτ166.1 73 (by decide)
                    have eτ166_74 := fτ166.1 74 (by decide)
                    have jτ166 := fτ166.2.2.1
                    have pτ166 := fτ166.2.2.2
                    unfold w_X16_topOf_166
                    try simp only [forall_eq, rII, rIJ, rIP, rJJ, rJI, rJP, rPP, rPI, rPJ, g1, g2, g3, g4, g5, g6, g7, g8, Nat.reduceEqDiff, Nat.reduceAdd, false_and, and_false, true_and, and_true, reduceIte, nZ0, nZ1, eτ166_71.1, eτ166_71.2, eτ166_73.1, eτ166_73.2, eτ166_74.1, eτ166_74.2, fun a k => (jτ166 a k).1, fun a k => (jτ166 a k).2, pτ166]
                    obtain ⟨k1, k2, k3, k4, k5, k6⟩ := hi166
                    split
                    · rename_i hc170
                      skip
                      unfold w_X16_topOf_210
                      try simp only [forall_eq, rII, rIJ, rIP, rJJ, rJI, rJP, rPP, rPI, rPJ, g1, g2, g3, g4, g5, g6, g7, g8, Nat.reduceEqDiff, Nat.reduceAdd, false_and, and_false, true_and, and_true, reduceIte, nZ0, nZ1, eτ166_71.1, eτ166_71.2, eτ166_73.1, eτ166_73.2, eτ166_74.1, eτ166_74.2, fun a k => (jτ166 a k).1, fun a k => (jτ166 a k).2, pτ166]
                      refine ⟨by (first | omega | with_reducible assumption | (unfold rng; omega) | (unfold rng; (repeat' split) <;> omega) | grind), ?_⟩
                      refine ⟨by (first | omega | with_reducible assumption | (unfold rng; omega) | (unfold rng; (repeat' split) <;> omega) | grind), ?_⟩
                      refine s_X16_drop g (by refine Rg.aJ g ?_ (by simp only [rlT]; first | with_reducible assumption | omega | exact Int64.toInt_le _ | (rw [Int64.toInt_ofInt_of_le (by omega) (by omega)]; omega) | grind); exact rτ166) (by assumption) h1 hov (fun σ23 _ rσ23 fc p8 => ?_)
                      have fσ23 : Fr ra jx rm [46, 47, 48, 49, 60, 61, 62, 63, 64, 65, 75, 76, 77, 78, 82] [66, 67, 79, 80] σ σ23 := Fr.tr (by refine Fr.aJ g ?_ (by decide); exact fτ166) (Fr.mor (fc) (by decide) (by decide))
                      have p9 := p8
                      have fc9 := fc
                      have pd := p8
                      have re9 := pd.1
                      have q78 := pd.2
                      have td := ThE.fr (by assumption) fc (by decide) (by decide)
                      have pe9 := td
                      have md := MtI.less (r := v10) (MtI.fr (MtI.fr (rm := rm) (K := [82]) (S := []) k2 (by repeat (first | exact Fr.rf | assumption | refine Fr.aJ g ?_ (by decide) | refine Fr.aI g ?_ (by decide) | refine Fr.sI g ?_ (by decide) | refine Fr.sJ g ?_ (by decide))) (by decide)) fc (by decide))
                      have me9 := md
                      simp only [rII, rIJ, rIP, rJJ, rJI, rJP, rPP, rPI, rPJ, g1, g2, g3, g4, g5, g6, g7, g8, Nat.reduceEqDiff, Nat.reduceAdd, false_and, and_false, true_and, and_true, reduceIte, nZ0, nZ1, eτ166_71.1, eτ166_71.2, eτ166_73.1, eτ166_73.2, eτ166_74.1, eτ166_74.2, fun a k => (jτ166 a k).1, fun a k => (jτ166 a k).2, pτ166] at q78
                      have eσ23_71 := fσ23.1 71 (by decide)
                      have eσ23_73 := fσ23.1 73 (by decide)
                      have eσ23_74 := fσ23.1 74 (by decide)
                      have jσ23 := fσ23.2.2.1
                      have pσ23 := fσ23.2.2.2
                      try simp only [forall_eq, rII, rIJ, rIP, rJJ, rJI, rJP, rPP, rPI, rPJ, g1, g2, g3, g4, g5, g6, g7, g8, Nat.reduceEqDiff, Nat.reduceAdd, false_and, and_false, true_and, and_true, reduceIte, nZ0, nZ1, eσ23_71.1, eσ23_71.2, eσ23_73.1, eσ23_73.2, eσ23_74.1, eσ23_74.2, fun a k => (jσ23 a k).1, fun a k => (jσ23 a k).2, pσ23]
                      have q9 := rσ.1 74 (v10.toNat); simp only [rgT] at q9
                      refine s_X16_emit (b4 := (ra 82)) (n4 := 16) g rσ23 (by first | exact hj | (rw [fσ23.2.2.2]; exact hj)) hja rfl (Or.inl ⟨82, rfl, by decide⟩) (by assumption) (by (try simp only [rII, rIJ, rIP, rJJ, rJI, rJP, rPP, rPI, rPJ, g1, g2, g3, g4, g5, g6, g7, g8, Nat.reduceEqDiff, Nat.reduceAdd, false_and, and_false, true_and, and_true, reduceIte, nZ0, nZ1, eσ23_71.1, eσ23_71.2, eσ23_73.1, eσ23_73.2, eσ23_74.1, eσ23_74.2, fun a k => (jσ23 a k).1, fun a k => (jσ23 a k).2, pσ23]) <;> (first | omega | with_reducible assumption | (unfold rng; omega) | (unfold rng; (repeat' split) <;> omega) | grind)) hem (by (try simp only [rII, rIJ, rIP, rJJ, rJI, rJP, rPP, rPI, rPJ, g1, g2, g3, g4, g5, g6, g7, g8, Nat.reduceEqDiff, Nat.reduceAdd, false_and, and_false, true_and, and_true, reduceIte, nZ0, nZ1, eσ23_71.1, eσ23_71.2, eσ23_73.1, eσ23_73.2, eσ23_74.1, eσ23_74.2, fun a k => (jσ23 a k).1, fun a k => (jσ23 a k).2, pσ23]) <;> (first | omega | with_reducible assumption | (unfold rng; omega) | (unfold rng; (repeat' split) <;> omega) | grind)) (by (try simp only [rII, rIJ, rIP, rJJ, rJI, rJP, rPP, rPI, rPJ, g1, g2, g3, g4, g5, g6, g7, g8, Nat.reduceEqDiff, Nat.reduceAdd, false_and, and_false, true_and, and_true, reduceIte, nZ0, nZ1, eσ23_71.1, eσ23_71.2, eσ23_73.1, eσ23_73.2, eσ23_74.1, eσ23_74.2, fun a k => (jσ23 a k).1, fun a k => (jσ23 a k).2, pσ23]) <;> (first | omega | with_reducible assumption | (unfold rng; omega) | (unfold rng; (repeat' split) <;> omega) | grind)) (by (try simp only [rII, rIJ, rIP, rJJ, rJI, rJP, rPP, rPI, rPJ, g1, g2, g3, g4, g5, g6, g7, g8, Nat.reduceEqDiff, Nat.reduceAdd, false_and, and_false, true_and, and_true, reduceIte, nZ0, nZ1, eσ23_71.1, eσ23_71.2, eσ23_73.1, eσ23_73.2, eσ23_74.1, eσ23_74.2, fun a k => (jσ23 a k).1, fun a k => (jσ23 a k).2, pσ23]) <;> (first | omega | with_reducible assumption | (unfold rng; omega) | (unfold rng; (repeat' split) <;> omega) | grind)) (by (try simp only [rII, rIJ, rIP, rJJ, rJI, rJP, rPP, rPI, rPJ, g1, g2, g3, g4, g5, g6, g7, g8, Nat.reduceEqDiff, Nat.reduceAdd, false_and, and_false, true_and, and_true, reduceIte, nZ0, nZ1, eσ23_71.1, eσ23_71.2, eσ23_73.1, eσ23_73.2, eσ23_74.1, eσ23_74.2, fun a k => (jσ23 a k).1, fun a k => (jσ23 a k).2, pσ23]) <;> first | exact hp | (rw [(fσ23.2.1 33 (by decide)).1]; exact hp)) (fun σ24 _ rσ24 fc p10 => ?_) (fun σx E rx fx px => hX _ _ rx (Fr.tr fσ23 (Fr.mor (fx) (by decide) (by decide))) ⟨px.1, px.2, _, _, RecI.fr (by assumption) fx (by decide) (by decide), MtI.fr (by assumption) fx (by decide)⟩)
                      have fσ24 : Fr ra jx rm [46, 47, 48, 49, 60, 61, 62, 63, 64, 65, 75, 76, 77, 78, 82] [66, 67, 79, 80] σ σ24 := Fr.tr fσ23 (Fr.mor (fc) (by decide) (by decide))
                      have pe9 := p10
                      have re9 := RecI.fr (by assumption) fc (by decide) (by decide)
                      have me9 := MtI.fr (by assumption) fc (by decide)
                      have e78e := congrFun (fc.1 78 (by decide)).1 v1.toNat
                      have eσ24_71 := fσ24.1 71 (by decide)
                      have eσ24_73 := fσ24.1 73 (by decide)
                      have eσ24_74 := fσ24.1 74 (by decide)
                      have jσ24 := fσ24.2.2.1
                      have pσ24 := fσ24.2.2.2
                      try simp only [forall_eq, rII, rIJ, rIP, rJJ, rJI, rJP, rPP, rPI, rPJ, g1, g2, g3, g4, g5, g6, g7, g8, Nat.reduceEqDiff, Nat.reduceAdd, false_and, and_false, true_and, and_true, reduceIte, nZ0, nZ1, eσ24_71.1, eσ24_71.2, eσ24_73.1, eσ24_73.2, eσ24_74.1, eσ24_74.2, fun a k => (jσ24 a k).1, fun a k => (jσ24 a k).2, pσ24]
                      unfold w_X16_topOf_256
                      try simp only [forall_eq, rII, rIJ, rIP, rJJ, rJI, rJP, rPP, rPI, rPJ, g1, g2, g3, g4, g5, g6, g7, g8, Nat.reduceEqDiff, Nat.reduceAdd, false_and, and_false, true_and, and_true, reduceIte, nZ0, nZ1, eσ24_71.1, eσ24_71.2, eσ24_73.1, eσ24_73.2, eσ24_74.1, eσ24_74.2, fun a k => (jσ24 a k).1, fun a k => (jσ24 a k).2, pσ24]
                      refine ⟨by (first | omega | with_reducible assumption | (unfold rng; omega) | (unfold rng; (repeat' split) <;> omega) | grind), ?_⟩
                      refine ih14 _ _ ?_ ?_ ?_ ?_
                      · exact rσ24
                      · exact fσ24
                      · first | exact ⟨_, _, ⟨⟨⟨re9, me9⟩, pe9⟩, by omega, fun q => absurd q (by omega), by omega, fun _ => by omega⟩, by omega⟩ | exact ⟨own, ps, ⟨hi14.1, by omega, fun q => absurd q (by omega), by omega, fun _ => by first | omega | grind⟩, by omega⟩
                      · omega
                    · rename_i hc170
                      skip
                      unfold w_X16_topOf_173
                      try simp only [forall_eq, rII, rIJ, rIP, rJJ, rJI, rJP, rPP, rPI, rPJ, g1, g2, g3, g4, g5, g6, g7, g8, Nat.reduceEqDiff, Nat.reduceAdd, false_and, and_false, true_and, and_true, reduceIte, nZ0, nZ1, eτ166_71.1, eτ166_71.2, eτ166_73.1, eτ166_73.2, eτ166_74.1, eτ166_74.2, fun a k => (jτ166 a k).1, fun a k => (jτ166 a k).2, pτ166]
                      split
                      · rename_i hc183
                        skip
                        unfold w_X16_topOf_202
                        try simp only [forall_eq, rII, rIJ, rIP, rJJ, rJI, rJP, rPP, rPI, rPJ, g1, g2, g3, g4, g5, g6, g7, g8, Nat.reduceEqDiff, Nat.reduceAdd, false_and, and_false, true_and, and_true, reduceIte, nZ0, nZ1, eτ166_71.1, eτ166_71.2, eτ166_73.1, eτ166_73.2, eτ166_74.1, eτ166_74.2, fun a k => (jτ166 a k).1, fun a k => (jτ166 a k).2, pτ166]
                        unfold w_X16_topOf_203
                        try simp only [forall_eq, rII, rIJ, rIP, rJJ, rJI, rJP, rPP, rPI, rPJ, g1, g2, g3, g4, g5, g6, g7, g8, Nat.reduceEqDiff, Nat.reduceAdd, false_and, and_false, true_and, and_true, reduceIte, nZ0, nZ1, eτ166_71.1, eτ166_71.2, eτ166_73.1, eτ166_73.2, eτ166_74.1, eτ166_74.2, fun a k => (jτ166 a k).1, fun a k => (jτ166 a k).2, pτ166]
                        refine ⟨by (first | omega | with_reducible assumption | (unfold rng; omega) | (unfold rng; (repeat' split) <;> omega) | grind), ?_⟩
                        refine ⟨by (first | omega | with_reducible assumption | (unfold rng; omega) | (unfold rng; (repeat' split) <;> omega) | grind), ?_⟩
                        refine ih166 _ _ ?_ ?_ ?_ ?_
                        · refine Rg.aJ g ?_ (by simp only [rlT]; first | with_reducible assumption | omega | exact Int64.toInt_le _ | (rw [Int64.toInt_ofInt_of_le (by omega) (by omega)]; omega) | grind); exact rτ166
                        · refine Fr.aJ g ?_ (by decide); exact fτ166
                        · refine ⟨?_, ?_, ?_, ?_, ?_, ?_⟩ <;> (first | with_reducible assumption | omega | exact RecI.fr (jx := jx) (K := [82]) (S := []) (by assumption) (by repeat (first | exact Fr.rf | assumption | refine Fr.aJ g ?_ (by decide) | refine Fr.aI g ?_ (by decide) | refine Fr.sI g ?_ (by decide) | refine Fr.sJ g ?_ (by decide))) (by decide) (by decide) | exact MtI.fr (rm := rm) (K := [82]) (S := []) (by assumption) (by repeat (first | exact Fr.rf | assumption | refine Fr.aJ g ?_ (by decide) | refine Fr.aI g ?_ (by decide) | refine Fr.sI g ?_ (by decide) | refine Fr.sJ g ?_ (by decide))) (by decide) | exact ThE.fr (jx := jx) (K := [82]) (S := []) (by assumption) (by repeat (first | exact Fr.rf | assumption | refine Fr.aJ g ?_ (by decide) | refine Fr.aI g ?_ (by decide) | refine Fr.sI g ?_ (by decide) | refine Fr.sJ g ?_ (by decide))) (by decide) (by decide) | exact HeE.fr (jx := jx) (K := [82]) (S := []) (by assumption) (by repeat (first | exact Fr.rf | assumption | refine Fr.aJ g ?_ (by decide) | refine Fr.aI g ?_ (by decide) | refine Fr.sI g ?_ (by decide) | refine Fr.sJ g ?_ (by decide))) (by decide) (by decide) | ((try simp only [rII, rIJ, rIP, rJJ, rJI, rJP, rPP, rPI, rPJ, g1, g2, g3, g4, g5, g6, g7, g8, Nat.reduceEqDiff, Nat.reduceAdd, false_and, and_false, true_and, and_true, reduceIte, nZ0, nZ1, eτ166_71.1, eτ166_71.2, eτ166_73.1, eτ166_73.2, eτ166_74.1, eτ166_74.2, fun a k => (jτ166 a k).1, fun a k => (jτ166 a k).2, pτ166]) <;> first | omega | assumption | grind))
                        · (try simp only [rII, rIJ, rIP, rJJ, rJI, rJP, rPP, rPI, rPJ, g1, g2, g3, g4, g5, g6, g7, g8, Nat.reduceEqDiff, Nat.reduceAdd, false_and, and_false, true_and, and_true, reduceIte, nZ0, nZ1, eτ166_71.1, eτ166_71.2, eτ166_73.1, eτ166_73.2, eτ166_74.1, eτ166_74.2, fun a k => (jτ166 a k).1, fun a k => (jτ166 a k).2, pτ166]) <;> (first | omega | with_reducible assumption | (unfold rng; omega) | (unfold rng; (repeat' split) <;> omega) | grind)
                      · rename_i hc183
                        skip
                        unfold w_X16_topOf_186
                        try simp only [forall_eq, rII, rIJ, rIP, rJJ, rJI, rJP, rPP, rPI, rPJ, g1, g2, g3, g4, g5, g6, g7, g8, Nat.reduceEqDiff, Nat.reduceAdd, false_and, and_false, true_and, and_true, reduceIte, nZ0, nZ1, eτ166_71.1, eτ166_71.2, eτ166_73.1, eτ166_73.2, eτ166_74.1, eτ166_74.2, fun a k => (jτ166 a k).1, fun a k => (jτ166 a k).2, pτ166]
                        refine ⟨by (first | omega | with_reducible assumption | (unfold rng; omega) | (unfold rng; (repeat' split) <;> omega) | grind), ?_⟩
                        refine ⟨by (first | omega | with_reducible assumption | (unfold rng; omega) | (unfold rng; (repeat' split) <;> omega) | grind), ?_⟩
                        refine ⟨by (first | omega | with_reducible assumption | (unfold rng; omega) | (unfold rng; (repeat' split) <;> omega) | grind), ?_⟩
                        unfold w_X16_topOf_203
                        try simp only [forall_eq, rII, rIJ, rIP, rJJ, rJI, rJP, rPP, rPI, rPJ, g1, g2, g3, g4, g5, g6, g7, g8, Nat.reduceEqDiff, Nat.reduceAdd, false_and, and_false, true_and, and_true, reduceIte, nZ0, nZ1, eτ166_71.1, eτ166_71.2, eτ166_73.1, eτ166_73.2, eτ166_74.1, eτ166_74.2, fun a k => (jτ166 a k).1, fun a k => (jτ166 a k).2, pτ166]
                        refine ⟨by (first | omega | with_reducible assumption | (unfold rng; omega) | (unfold rng; (repeat' split) <;> omega) | grind), ?_⟩
                        refine ⟨by (first | omega | with_reducible assumption | (unfold rng; omega) | (unfold rng; (repeat' split) <;> omega) | grind), ?_⟩
                        refine ih166 _ _ ?_ ?_ ?_ ?_
                        · refine Rg.aJ g ?_ (by simp only [rlT]; first | with_reducible assumption | omega | exact Int64.toInt_le _ | (rw [Int64.toInt_ofInt_of_le (by omega) (by omega)]; omega) | grind); exact rτ166
                        · refine Fr.aJ g ?_ (by decide); exact fτ166
                        · refine ⟨?_, ?_, ?_, ?_, ?_, ?_⟩ <;> (first | with_reducible assumption | omega | exact RecI.fr (jx := jx) (K := [82]) (S := []) (by assumption) (by repeat (first | exact Fr.rf | assumption | refine Fr.aJ g ?_ (by decide) | refine Fr.aI g ?_ (by decide) | refine Fr.sI g ?_ (by decide) | refine Fr.sJ g ?_ (by decide))) (by decide) (by decide) | exact MtI.fr (rm := rm) (K := [82]) (S := []) (by assumption) (by repeat (first | exact Fr.rf | assumption | refine Fr.aJ g ?_ (by decide) | refine Fr.aI g ?_ (by decide) | refine Fr.sI g ?_ (by decide) | refine Fr.sJ g ?_ (by decide))) (by decide) | exact ThE.fr (jx := jx) (K := [82]) (S := []) (by assumption) (by repeat (first | exact Fr.rf | assumption | refine Fr.aJ g ?_ (by decide) | refine Fr.aI g ?_ (by decide) | refine Fr.sI g ?_ (by decide) | refine Fr.sJ g ?_ (by decide))) (by decide) (by decide) | exact HeE.fr (jx := jx) (K := [82]) (S := []) (by assumption) (by repeat (first | exact Fr.rf | assumption | refine Fr.aJ g ?_ (by decide) | refine Fr.aI g ?_ (by decide) | refine Fr.sI g ?_ (by decide) | refine Fr.sJ g ?_ (by decide))) (by decide) (by decide) | ((try simp only [rII, rIJ, rIP, rJJ, rJI, rJP, rPP, rPI, rPJ, g1, g2, g3, g4, g5, g6, g7, g8, Nat.reduceEqDiff, Nat.reduceAdd, false_and, and_false, true_and, and_true, reduceIte, nZ0, nZ1, eτ166_71.1, eτ166_71.2, eτ166_73.1, eτ166_73.2, eτ166_74.1, eτ166_74.2, fun a k => (jτ166 a k).1, fun a k => (jτ166 a k).2, pτ166]) <;> first | omega | assumption | grind))
                        · (try simp only [rII, rIJ, rIP, rJJ, rJI, rJP, rPP, rPI, rPJ, g1, g2, g3, g4, g5, g6, g7, g8, Nat.reduceEqDiff, Nat.reduceAdd, false_and, and_false, true_and, and_true, reduceIte, nZ0, nZ1, eτ166_71.1, eτ166_71.2, eτ166_73.1, eτ166_73.2, eτ166_74.1, eτ166_74.2, fun a k => (jτ166 a k).1, fun a k => (jτ166 a k).2, pτ166]) <;> (first | omega | with_reducible assumption | (unfold rng; omega) | (unfold rng; (repeat' split) <;> omega) | grind)
                refine ⟨_, L166 _ _ _ ?_ ?_ ?_ (Nat.lt_succ_self _)⟩
                · exact rτ14
                · exact fτ14
                · refine ⟨?_, ?_, ?_, ?_, ?_, ?_⟩ <;> (first | with_reducible assumption | omega | exact RecI.fr (jx := jx) (K := [82]) (S := []) (by assumption) (by repeat (first | exact Fr.rf | assumption | refine Fr.aJ g ?_ (by decide) | refine Fr.aI g ?_ (by decide) | refine Fr.sI g ?_ (by decide) | refine Fr.sJ g ?_ (by decide))) (by decide) (by decide) | exact MtI.fr (rm := rm) (K := [82]) (S := []) (by assumption) (by repeat (first | exact Fr.rf | assumption | refine Fr.aJ g ?_ (by decide) | refine Fr.aI g ?_ (by decide) | refine Fr.sI g ?_ (by decide) | refine Fr.sJ g ?_ (by decide))) (by decide) | exact ThE.fr (jx := jx) (K := [82]) (S := []) (by assumption) (by repeat (first | exact Fr.rf | assumption | refine Fr.aJ g ?_ (by decide) | refine Fr.aI g ?_ (by decide) | refine Fr.sI g ?_ (by decide) | refine Fr.sJ g ?_ (by decide))) (by decide) (by decide) | exact HeE.fr (jx := jx) (K := [82]) (S := []) (by assumption) (by repeat (first | exact Fr.rf | assumption | refine Fr.aJ g ?_ (by decide) | refine Fr.aI g ?_ (by decide) | refine Fr.sI g ?_ (by decide) | refine Fr.sJ g ?_ (by decide))) (by decide) (by decide) | ((try simp only [rII, rIJ, rIP, rJJ, rJI, rJP, rPP, rPI, rPJ, g1, g2, g3, g4, g5, g6, g7, g8, Nat.reduceEqDiff, Nat.reduceAdd, false_and, and_false, true_and, and_true, reduceIte, nZ0, nZ1, eτ14_71.1, eτ14_71.2, eτ14_73.1, eτ14_73.2, eτ14_74.1, eτ14_74.2, fun a k => (jτ14 a k).1, fun a k => (jτ14 a k).2, pτ14]) <;> first | omega | assumption | grind))
            · rename_i hc44
              skip
              unfold w_X16_topOf_47
              try simp only [forall_eq, rII, rIJ, rIP, rJJ, rJI, rJP, rPP, rPI, rPJ, g1, g2, g3, g4, g5, g6, g7, g8, Nat.reduceEqDiff, Nat.reduceAdd, false_and, and_false, true_and, and_true, reduceIte, nZ0, nZ1, eτ14_71.1, eτ14_71.2, eτ14_73.1, eτ14_73.2, eτ14_74.1, eτ14_74.2, fun a k => (jτ14 a k).1, fun a k => (jτ14 a k).2, pτ14]
              have hov := hi41.1.resolve_left (by assumption)
              have n11 := hrA.nd hov h1
              have n1 := n11.1; have n2 := n11.2.1; have n3 := n11.2.2.1; have n4 := n11.2.2.2
              have hk9 : v11 = r0 → gJ σ (ra 71) v11.toNat / v6 = v3 := fun q => q ▸ hk0
              have hij : v9 = 1 → ps v11 = ps r0 → v11 = r0 := fun q e => hrA.inj h1 hov (nr0 q).1 e
              refine ⟨by (first | omega | with_reducible assumption | (unfold rng; omega) | (unfold rng; (repeat' split) <;> omega) | grind), ?_⟩
              refine ⟨by (first | omega | with_reducible assumption | (unfold rng; omega) | (unfold rng; (repeat' split) <;> omega) | grind), ?_⟩
              split
              · rename_i hc59
                skip
                unfold w_X16_topOf_145
                try simp only [forall_eq, rII, rIJ, rIP, rJJ, rJI, rJP, rPP, rPI, rPJ, g1, g2, g3, g4, g5, g6, g7, g8, Nat.reduceEqDiff, Nat.reduceAdd, false_and, and_false, true_and, and_true, reduceIte, nZ0, nZ1, eτ14_71.1, eτ14_71.2, eτ14_73.1, eτ14_73.2, eτ14_74.1, eτ14_74.2, fun a k => (jτ14 a k).1, fun a k => (jτ14 a k).2, pτ14]
                refine ⟨by (first | omega | with_reducible assumption | (unfold rng; omega) | (unfold rng; (repeat' split) <;> omega) | grind), ?_⟩
                have q11 := rτ14.1 75 (v11.toNat); simp only [rgT] at q11
                refine ih41 _ _ ?_ ?_
                · first | exact ⟨hrA.hd h1, Or.inl rfl, fun q _ => w41 q⟩ | grind
                · (try simp only [rII, rIJ, rIP, rJJ, rJI, rJP, rPP, rPI, rPJ, g1, g2, g3, g4, g5, g6, g7, g8, Nat.reduceEqDiff, Nat.reduceAdd, false_and, and_false, true_and, and_true, reduceIte, nZ0, nZ1, eτ14_71.1, eτ14_71.2, eτ14_73.1, eτ14_73.2, eτ14_74.1, eτ14_74.2, fun a k => (jτ14 a k).1, fun a k => (jτ14 a k).2, pτ14]) <;> (first | omega | with_reducible assumption | (unfold rng; omega) | (unfold rng; (repeat' split) <;> omega) | grind)
              · rename_i hc59
                skip
                unfold w_X16_topOf_62
                try simp only [forall_eq, rII, rIJ, rIP, rJJ, rJI, rJP, rPP, rPI, rPJ, g1, g2, g3, g4, g5, g6, g7, g8, Nat.reduceEqDiff, Nat.reduceAdd, false_and, and_false, true_and, and_true, reduceIte, nZ0, nZ1, eτ14_71.1, eτ14_71.2, eτ14_73.1, eτ14_73.2, eτ14_74.1, eτ14_74.2, fun a k => (jτ14 a k).1, fun a k => (jτ14 a k).2, pτ14]
                split
                · rename_i hc65
                  skip
                  unfold w_X16_topOf_141
                  try simp only [forall_eq, rII, rIJ, rIP, rJJ, rJI, rJP, rPP, rPI, rPJ, g1, g2, g3, g4, g5, g6, g7, g8, Nat.reduceEqDiff, Nat.reduceAdd, false_and, and_false, true_and, and_true, reduceIte, nZ0, nZ1, eτ14_71.1, eτ14_71.2, eτ14_73.1, eτ14_73.2, eτ14_74.1, eτ14_74.2, fun a k => (jτ14 a k).1, fun a k => (jτ14 a k).2, pτ14]
                  unfold w_X16_topOf_145
                  try simp only [forall_eq, rII, rIJ, rIP, rJJ, rJI, rJP, rPP, rPI, rPJ, g1, g2, g3, g4, g5, g6, g7, g8, Nat.reduceEqDiff, Nat.reduceAdd, false_and, and_false, true_and, and_true, reduceIte, nZ0, nZ1, eτ14_71.1, eτ14_71.2, eτ14_73.1, eτ14_73.2, eτ14_74.1, eτ14_74.2, fun a k => (jτ14 a k).1, fun a k => (jτ14 a k).2, pτ14]
                  refine ⟨by (first | omega | with_reducible assumption | (unfold rng; omega) | (unfold rng; (repeat' split) <;> omega) | grind), ?_⟩
                  have q12 := rτ14.1 75 (v11.toNat); simp only [rgT] at q12
                  refine ih41 _ _ ?_ ?_
                  · first | exact ⟨hrA.hd h1, Or.inl rfl, fun q _ => w41 q⟩ | grind
                  · (try simp only [rII, rIJ, rIP, rJJ, rJI, rJP, rPP, rPI, rPJ, g1, g2, g3, g4, g5, g6, g7, g8, Nat.reduceEqDiff, Nat.reduceAdd, false_and, and_false, true_and, and_true, reduceIte, nZ0, nZ1, eτ14_71.1, eτ14_71.2, eτ14_73.1, eτ14_73.2, eτ14_74.1, eτ14_74.2, fun a k => (jτ14 a k).1, fun a k => (jτ14 a k).2, pτ14]) <;> (first | omega | with_reducible assumption | (unfold rng; omega) | (unfold rng; (repeat' split) <;> omega) | grind)
                · rename_i hc65
                  skip
                  unfold w_X16_topOf_68
                  try simp only [forall_eq, rII, rIJ, rIP, rJJ, rJI, rJP, rPP, rPI, rPJ, g1, g2, g3, g4, g5, g6, g7, g8, Nat.reduceEqDiff, Nat.reduceAdd, false_and, and_false, true_and, and_true, reduceIte, nZ0, nZ1, eτ14_71.1, eτ14_71.2, eτ14_73.1, eτ14_73.2, eτ14_74.1, eτ14_74.2, fun a k => (jτ14 a k).1, fun a k => (jτ14 a k).2, pτ14]
                  refine ⟨by (first | omega | with_reducible assumption | (unfold rng; omega) | (unfold rng; (repeat' split) <;> omega) | grind), ?_⟩
                  refine ⟨by (first | omega | with_reducible assumption | (unfold rng; omega) | (unfold rng; (repeat' split) <;> omega) | grind), ?_⟩
                  refine ⟨by (first | omega | with_reducible assumption | (unfold rng; omega) | (unfold rng; (repeat' split) <;> omega) | grind), ?_⟩
                  refine ⟨by (first | omega | with_reducible assumption | (unfold rng; omega) | (unfold rng; (repeat' split) <;> omega) | grind), ?_⟩
                  refine ⟨by (first | omega | with_reducible assumption | (unfold rng; omega) | (unfold rng; (repeat' split) <;> omega) | grind), ?_⟩
                  refine ⟨by (first | omega | with_reducible assumption | (unfold rng; omega) | (unfold rng; (repeat' split) <;> omega) | grind), ?_⟩
                  split
                  · rename_i hc95
                    skip
                    unfold w_X16_topOf_141
                    try simp only [forall_eq, rII, rIJ, rIP, rJJ, rJI, rJP, rPP, rPI, rPJ, g1, g2, g3, g4, g5, g6, g7, g8, Nat.reduceEqDiff, Nat.reduceAdd, false_and, and_false, true_and, and_true, reduceIte, nZ0, nZ1, eτ14_71.1, eτ14_71.2, eτ14_73.1, eτ14_73.2, eτ14_74.1, eτ14_74.2, fun a k => (jτ14 a k).1, fun a k => (jτ14 a k).2, pτ14]
                    unfold w_X16_topOf_145
                    try simp only [forall_eq, rII, rIJ, rIP, rJJ, rJI, rJP, rPP, rPI, rPJ, g1, g2, g3, g4, g5, g6, g7, g8, Nat.reduceEqDiff, Nat.reduceAdd, false_and, and_false, true_and, and_true, reduceIte, nZ0, nZ1, eτ14_71.1, eτ14_71.2, eτ14_73.1, eτ14_73.2, eτ14_74.1, eτ14_74.2, fun a k => (jτ14 a k).1, fun a k => (jτ14 a k).2, pτ14]
                    refine ⟨by (first | omega | with_reducible assumption | (unfold rng; omega) | (unfold rng; (repeat' split) <;> omega) | grind), ?_⟩
                    have q13 := rτ14.1 75 (v11.toNat); simp only [rgT] at q13
                    refine ih41 _ _ ?_ ?_
                    · first | exact ⟨hrA.hd h1, Or.inl rfl, fun q _ => w41 q⟩ | grind
                    · (try simp only [rII, rIJ, rIP, rJJ, rJI, rJP, rPP, rPI, rPJ, g1, g2, g3, g4, g5, g6, g7, g8, Nat.reduceEqDiff, Nat.reduceAdd, false_and, and_false, true_and, and_true, reduceIte, nZ0, nZ1, eτ14_71.1, eτ14_71.2, eτ14_73.1, eτ14_73.2, eτ14_74.1, eτ14_74.2, fun a k => (jτ14 a k).1, fun a k => (jτ14 a k).2, pτ14]) <;> (first | omega | with_reducible assumption | (unfold rng; omega) | (unfold rng; (repeat' split) <;> omega) | grind)
                  · rename_i hc95
                    skip
                    unfold w_X16_topOf_98
                    try simp only [forall_eq, rII, rIJ, rIP, rJJ, rJI, rJP, rPP, rPI, rPJ, g1, g2, g3, g4, g5, g6, g7, g8, Nat.reduceEqDiff, Nat.reduceAdd, false_and, and_false, true_and, and_true, reduceIte, nZ0, nZ1, eτ14_71.1, eτ14_71.2, eτ14_73.1, eτ14_73.2, eτ14_74.1, eτ14_74.2, fun a k => (jτ14 a k).1, fun a k => (jτ14 a k).2, pτ14]
                    refine ⟨by (first | omega | with_reducible assumption | (unfold rng; omega) | (unfold rng; (repeat' split) <;> omega) | grind), ?_⟩
                    refine ⟨by (first | omega | with_reducible assumption | (unfold rng; omega) | (unfold rng; (repeat' split) <;> omega) | grind), ?_⟩
                    refine ⟨by (first | omega | with_reducible assumption | (unfold rng; omega) | (unfold rng; (repeat' split) <;> omega) | grind), ?_⟩
                    refine ⟨by (first | omega | with_reducible assumption | (unfold rng; omega) | (unfold rng; (repeat' split) <;> omega) | grind), ?_⟩
                    refine ⟨by (first | omega | with_reducible assumption | (unfold rng; omega) | (unfold rng; (repeat' split) <;> omega) | grind), ?_⟩
                    refine ⟨by (first | omega | with_reducible assumption | (unfold rng; omega) | (unfold rng; (repeat' split) <;> omega) | grind), ?_⟩
                    split
                    · rename_i hc125
                      skip
                      unfold w_X16_topOf_145
                      try simp only [forall_eq, rII, rIJ, rIP, rJJ, rJI, rJP, rPP, rPI, rPJ, g1, g2, g3, g4, g5, g6, g7, g8, Nat.reduceEqDiff, Nat.reduceAdd, false_and, and_false, true_and, and_true, reduceIte, nZ0, nZ1, eτ14_71.1, eτ14_71.2, eτ14_73.1, eτ14_73.2, eτ14_74.1, eτ14_74.2, fun a k => (jτ14 a k).1, fun a k => (jτ14 a k).2, pτ14]
                      refine ⟨by (first | omega | with_reducible assumption | (unfold rng; omega) | (unfold rng; (repeat' split) <;> omega) | grind), ?_⟩
                      have q14 := rτ14.1 75 (v11.toNat); simp only [rgT] at q14
                      refine ih41 _ _ ?_ ?_
                      · first | exact ⟨hrA.hd h1, Or.inl rfl, fun q _ => w41 q⟩ | grind
                      · (try simp only [rII, rIJ, rIP, rJJ, rJI, rJP, rPP, rPI, rPJ, g1, g2, g3, g4, g5, g6, g7, g8, Nat.reduceEqDiff, Nat.reduceAdd, false_and, and_false, true_and, and_true, reduceIte, nZ0, nZ1, eτ14_71.1, eτ14_71.2, eτ14_73.1, eτ14_73.2, eτ14_74.1, eτ14_74.2, fun a k => (jτ14 a k).1, fun a k => (jτ14 a k).2, pτ14]) <;> (first | omega | with_reducible assumption | (unfold rng; omega) | (unfold rng; (repeat' split) <;> omega) | grind)
                    · rename_i hc125
                      skip
                      unfold w_X16_topOf_128
                      try simp only [forall_eq, rII, rIJ, rIP, rJJ, rJI, rJP, rPP, rPI, rPJ, g1, g2, g3, g4, g5, g6, g7, g8, Nat.reduceEqDiff, Nat.reduceAdd, false_and, and_false, true_and, and_true, reduceIte, nZ0, nZ1, eτ14_71.1, eτ14_71.2, eτ14_73.1, eτ14_73.2, eτ14_74.1, eτ14_74.2, fun a k => (jτ14 a k).1, fun a k => (jτ14 a k).2, pτ14]
                      refine s_X16_orderOf g rτ14 (by (try simp only [rII, rIJ, rIP, rJJ, rJI, rJP, rPP, rPI, rPJ, g1, g2, g3, g4, g5, g6, g7, g8, Nat.reduceEqDiff, Nat.reduceAdd, false_and, and_false, true_and, and_true, reduceIte, nZ0, nZ1, eτ14_71.1, eτ14_71.2, eτ14_73.1, eτ14_73.2, eτ14_74.1, eτ14_74.2, fun a k => (jτ14 a k).1, fun a k => (jτ14 a k).2, pτ14]) <;> (first | omega | with_reducible assumption | (unfold rng; omega) | (unfold rng; (repeat' split) <;> omega) | grind)) (by (try simp only [rII, rIJ, rIP, rJJ, rJI, rJP, rPP, rPI, rPJ, g1, g2, g3, g4, g5, g6, g7, g8, Nat.reduceEqDiff, Nat.reduceAdd, false_and, and_false, true_and, and_true, reduceIte, nZ0, nZ1, eτ14_71.1, eτ14_71.2, eτ14_73.1, eτ14_73.2, eτ14_74.1, eτ14_74.2, fun a k => (jτ14 a k).1, fun a k => (jτ14 a k).2, pτ14]) <;> (first | omega | with_reducible assumption | (unfold rng; omega) | (unfold rng; (repeat' split) <;> omega) | grind)) (by (try simp only [rII, rIJ, rIP, rJJ, rJI, rJP, rPP, rPI, rPJ, g1, g2, g3, g4, g5, g6, g7, g8, Nat.reduceEqDiff, Nat.reduceAdd, false_and, and_false, true_and, and_true, reduceIte, nZ0, nZ1, eτ14_71.1, eτ14_71.2, eτ14_73.1, eτ14_73.2, eτ14_74.1, eτ14_74.2, fun a k => (jτ14 a k).1, fun a k => (jτ14 a k).2, pτ14]) <;> (first | omega | with_reducible assumption | (unfold rng; omega) | (unfold rng; (repeat' split) <;> omega) | grind)) (fun r28 p15 => ?_)
                      try simp only [forall_eq, rII, rIJ, rIP, rJJ, rJI, rJP, rPP, rPI, rPJ, g1, g2, g3, g4, g5, g6, g7, g8, Nat.reduceEqDiff, Nat.reduceAdd, false_and, and_false, true_and, and_true, reduceIte, nZ0, nZ1, eτ14_71.1, eτ14_71.2, eτ14_73.1, eτ14_73.2, eτ14_74.1, eτ14_74.2, fun a k => (jτ14 a k).1, fun a k => (jτ14 a k).2, pτ14]
                      split
                      · rename_i hc138
                        skip
                        unfold w_X16_topOf_145
                        try simp only [forall_eq, rII, rIJ, rIP, rJJ, rJI, rJP, rPP, rPI, rPJ, g1, g2, g3, g4, g5, g6, g7, g8, Nat.reduceEqDiff, Nat.reduceAdd, false_and, and_false, true_and, and_true, reduceIte, nZ0, nZ1, eτ14_71.1, eτ14_71.2, eτ14_73.1, eτ14_73.2, eτ14_74.1, eτ14_74.2, fun a k => (jτ14 a k).1, fun a k => (jτ14 a k).2, pτ14]
                        refine ⟨by (first | omega | with_reducible assumption | (unfold rng; omega) | (unfold rng; (repeat' split) <;> omega) | grind), ?_⟩
                        have q16 := rτ14.1 75 (v11.toNat); simp only [rgT] at q16
                        refine ih41 _ _ ?_ ?_
                        · first | exact ⟨hrA.hd h1, Or.inl rfl, fun q _ => w41 q⟩ | grind
                        · (try simp only [rII, rIJ, rIP, rJJ, rJI, rJP, rPP, rPI, rPJ, g1, g2, g3, g4, g5, g6, g7, g8, Nat.reduceEqDiff, Nat.reduceAdd, false_and, and_false, true_and, and_true, reduceIte, nZ0, nZ1, eτ14_71.1, eτ14_71.2, eτ14_73.1, eτ14_73.2, eτ14_74.1, eτ14_74.2, fun a k => (jτ14 a k).1, fun a k => (jτ14 a k).2, pτ14]) <;> (first | omega | with_reducible assumption | (unfold rng; omega) | (unfold rng; (repeat' split) <;> omega) | grind)
                      · rename_i hc138
                        skip
                        unfold w_X16_topOf_141
                        try simp only [forall_eq, rII, rIJ, rIP, rJJ, rJI, rJP, rPP, rPI, rPJ, g1, g2, g3, g4, g5, g6, g7, g8, Nat.reduceEqDiff, Nat.reduceAdd, false_and, and_false, true_and, and_true, reduceIte, nZ0, nZ1, eτ14_71.1, eτ14_71.2, eτ14_73.1, eτ14_73.2, eτ14_74.1, eτ14_74.2, fun a k => (jτ14 a k).1, fun a k => (jτ14 a k).2, pτ14]
                        unfold w_X16_topOf_145
                        try simp only [forall_eq, rII, rIJ, rIP, rJJ, rJI, rJP, rPP, rPI, rPJ, g1, g2, g3, g4, g5, g6, g7, g8, Nat.reduceEqDiff, Nat.reduceAdd, false_and, and_false, true_and, and_true, reduceIte, nZ0, nZ1, eτ14_71.1, eτ14_71.2, eτ14_73.1, eτ14_73.2, eτ14_74.1, eτ14_74.2, fun a k => (jτ14 a k).1, fun a k => (jτ14 a k).2, pτ14]
                        refine ⟨by (first | omega | with_reducible assumption | (unfold rng; omega) | (unfold rng; (repeat' split) <;> omega) | grind), ?_⟩
                        have q17 := rτ14.1 75 (v11.toNat); simp only [rgT] at q17
                        refine ih41 _ _ ?_ ?_
                        · first | exact ⟨hrA.hd h1, Or.inl rfl, fun q _ => w41 q⟩ | grind
                        · (try simp only [rII, rIJ, rIP, rJJ, rJI, rJP, rPP, rPI, rPJ, g1, g2, g3, g4, g5, g6, g7, g8, Nat.reduceEqDiff, Nat.reduceAdd, false_and, and_false, true_and, and_true, reduceIte, nZ0, nZ1, eτ14_71.1, eτ14_71.2, eτ14_73.1, eτ14_73.2, eτ14_74.1, eτ14_74.2, fun a k => (jτ14 a k).1, fun a k => (jτ14 a k).2, pτ14]) <;> (first | omega | with_reducible assumption | (unfold rng; omega) | (unfold rng; (repeat' split) <;> omega) | grind)
        refine ⟨_, L41 _ _ _ ?_ (Nat.lt_succ_self _)⟩
        · first | exact ⟨hrA.hd h1, Or.inl rfl, fun q _ => w41 q⟩ | grind
  refine ⟨(10) + 1, L14 _ _ _ ?_ ?_ ?_ (by omega)⟩
  · exact rσ
  · exact fσ
  · exact ⟨own0, ps0, ⟨⟨⟨hr0, hm0⟩, hth⟩, by omega, fun _ => ⟨rfl, rfl⟩, by omega, fun q => absurd rfl q⟩, by omega⟩
set_option maxHeartbeats 4000000 in
theorem s_X16_growTop {ra : Nat → Nat} {jx : Nat → Nat → Nat} {rm : Nat} {ja : Nat} (g : Geo ra jx rm) {σ : Sg} {v1 : Int} {v2 : Int} {v3 : Int64} (rσ : Rg ra jx rm σ) (hj : gP σ rm 17 = some ja) (hja : ja = ra 15 ∨ ja = ra 16) (hre : RecE ra jx rm ja σ) (hth : ThE ra rm σ) (h1 : 0 ≤ v1 ∧ v1 < 64) (h2 : 0 ≤ v2 ∧ v2 < 16) (h3 : v3.toInt ≤ 4611686018427387904) (hp : 1 ≤ gI σ rm 33) (hf : 0 ≤ gI σ (jx ja 4) v2.toNat) (hst : 1 ≤ (gJ σ (jx ja 9) v2.toNat).toInt) (hon : 1 ≤ (gJ σ (jx ja 8) v2.toNat).toInt ∧ (gJ σ (jx ja 8) v2.toNat).toInt ≤ 9) (hcl : gI σ (jx ja 6) (gI σ (jx ja 4) v2.toNat).toNat ≤ 7) {Q : Sg → Unit → Prop} {X : Sg → String → Prop} (hQ : ∀ (σ' : Sg) (r : Unit), Rg ra jx rm σ' → Fr ra jx rm [46, 47, 48, 49, 60, 61, 62, 63, 64, 65, 75, 76, 77, 78, 82] [66, 67, 79, 80] σ σ' → (RecE ra jx rm ja σ' ∧ ThE ra rm σ') → Q σ' r) (hX : ∀ (σ' : Sg) (E : String), Rg ra jx rm σ' → Fr ra jx rm [46, 47, 48, 49, 60, 61, 62, 63, 64, 65, 75, 76, 77, 78, 82] [66, 67, 79, 80] σ σ' → (E = "StreamHouseModel$Broken" ∧ ThE ra rm σ' ∧ RecE ra jx rm ja σ') → X σ' E) : wp_X16_growTop ra jx rm v1 v2 v3 σ Q X := by
  obtain ⟨g1, g2, g3, g4, g5, g6, g7, g8⟩ := id g
  have fσ : Fr ra jx rm [46, 47, 48, 49, 60, 61, 62, 63, 64, 65, 75, 76, 77, 78, 82] [66, 67, 79, 80] σ σ := Fr.rf
  have h60 : gJ σ (jx ja 9) v2.toNat ≠ 0 := fun q => by rw [q] at hst; exact absurd hst (by decide)
  unfold wp_X16_growTop
  unfold w_X16_growTop_0
  try simp only [forall_eq, rII, rIJ, rIP, rJJ, rJI, rJP, rPP, rPI, rPJ, g1, g2, g3, g4, g5, g6, g7, g8, Nat.reduceEqDiff, Nat.reduceAdd, false_and, and_false, true_and, and_true, reduceIte, nZ0, nZ1]
  refine ⟨ja, by exact hj, hja, ?_⟩
  refine ⟨ja, by exact hj, hja, ?_⟩
  refine ⟨by (first | omega | with_reducible assumption | (unfold rng; omega) | (unfold rng; (repeat' split) <;> omega) | grind), ?_⟩
  have q1 := rσ.2.2.1 ja 4 (v2.toNat); simp only [rgJ] at q1
  refine ⟨by (first | omega | with_reducible assumption | (unfold rng; omega) | (unfold rng; (repeat' split) <;> omega) | grind), ?_⟩
  refine ⟨ja, by exact hj, hja, ?_⟩
  refine ⟨by (first | omega | with_reducible assumption | (unfold rng; omega) | (unfold rng; (repeat' split) <;> omega) | grind), ?_⟩
  have q2 := rσ.2.2.1 ja 6 ((gI σ (jx ja 4) v2.toNat).toNat); simp only [rgJ] at q2
  have L33 : ∀ (fu33 : Nat) (τ33 : Sg) (v8 : Int), Rg ra jx rm τ33 → Fr ra jx rm [46, 47, 48, 49, 60, 61, 62, 63, 64, 65, 75, 76, 77, 78, 82] [66, 67, 79, 80] σ τ33 → ((RecE ra jx rm ja τ33 ∧ ThE ra rm τ33) ∧ (v8 = 0 ∨ v8 = 1)) → ((4001 * v8 + gI τ33 (ra 78) v1.toNat).toNat) < fu33 → wl_X16_growTop_33 ra jx rm Q X fu33 τ33 v1 v2 v3 (gI σ (jx ja 6) (gI σ (jx ja 4) v2.toNat).toNat) (gJ σ (jx ja 9) v2.toNat) v8 := by
    intro fu33
    induction fu33 with
    | zero => intro τ33 _ _ _ _ h9; omega
    | succ fu33 ih33 =>
      intro τ33 v8 rτ33 fτ33 hi33 hm33
      unfold wl_X16_growTop_33
      have eτ33_71 := fτ33.1 71 (by decide)
      have jτ33 := fτ33.2.2.1
      have pτ33 := fτ33.2.2.2
      unfold w_X16_growTop_33
      try simp only [forall_eq, rII, rIJ, rIP, rJJ, rJI, rJP, rPP, rPI, rPJ, g1, g2, g3, g4, g5, g6, g7, g8, Nat.reduceEqDiff, Nat.reduceAdd, false_and, and_false, true_and, and_true, reduceIte, nZ0, nZ1, eτ33_71.1, eτ33_71.2, fun a k => (jτ33 a k).1, fun a k => (jτ33 a k).2, pτ33]
      obtain ⟨⟨⟨own, ps, hr, hm⟩, hth33⟩, hv8⟩ := hi33
      have hhd := hr.hd h1
      have hb9 := rτ33.1 78 v1.toNat; simp only [rgT] at hb9
      split
      · rename_i hc35
        skip
        unfold w_X16_growTop_149
        try simp only [forall_eq, rII, rIJ, rIP, rJJ, rJI, rJP, rPP, rPI, rPJ, g1, g2, g3, g4, g5, g6, g7, g8, Nat.reduceEqDiff, Nat.reduceAdd, false_and, and_false, true_and, and_true, reduceIte, nZ0, nZ1, eτ33_71.1, eτ33_71.2, fun a k => (jτ33 a k).1, fun a k => (jτ33 a k).2, pτ33]
        refine hQ _ _ ?_ ?_ ?_
        · exact rτ33
        · exact fτ33
        · exact ⟨⟨own, ps, hr, hm⟩, hth33⟩
      · rename_i hc35
        skip
        unfold w_X16_growTop_38
        try simp only [forall_eq, rII, rIJ, rIP, rJJ, rJI, rJP, rPP, rPI, rPJ, g1, g2, g3, g4, g5, g6, g7, g8, Nat.reduceEqDiff, Nat.reduceAdd, false_and, and_false, true_and, and_true, reduceIte, nZ0, nZ1, eτ33_71.1, eτ33_71.2, fun a k => (jτ33 a k).1, fun a k => (jτ33 a k).2, pτ33]
        refine ⟨by (first | omega | with_reducible assumption | (unfold rng; omega) | (unfold rng; (repeat' split) <;> omega) | grind), ?_⟩
        have q3 := rτ33.1 76 (v1.toNat); simp only [rgT] at q3
        have L51 : ∀ (fu51 : Nat) (v9 : Int64) (v11 : Int), ((v11 = -1 ∨ own v11 = v1) ∧ (v9 < 0 ∨ ∃ r0, own r0 = v1 ∧ gJ σ (ra 71) r0.toNat / (gJ σ (jx ja 9) v2.toNat) = v9 ∧ ¬ (v9 * (gJ σ (jx ja 9) v2.toNat) + (gJ σ (jx ja 9) v2.toNat) - 1 > v3))) → ((if v11 < 0 then 0 else gI τ33 (ra 78) v1.toNat - ps v11).toNat) < fu51 → wl_X16_growTop_51 ra jx rm (wl_X16_growTop_33 ra jx rm Q X fu33) Q X fu51 τ33 v1 v2 v3 (gI σ (jx ja 6) (gI σ (jx ja 4) v2.toNat).toNat) (gJ σ (jx ja 9) v2.toNat) v9 v11 := by
          intro fu51
          induction fu51 with
          | zero => intro  _ _ _ h9; omega
          | succ fu51 ih51 =>
            intro v9 v11 hi51 hm51
            unfold wl_X16_growTop_51
            unfold w_X16_growTop_51
            try simp only [forall_eq, rII, rIJ, rIP, rJJ, rJI, rJP, rPP, rPI, rPJ, g1, g2, g3, g4, g5, g6, g7, g8, Nat.reduceEqDiff, Nat.reduceAdd, false_and, and_false, true_and, and_true, reduceIte, nZ0, nZ1, eτ33_71.1, eτ33_71.2, fun a k => (jτ33 a k).1, fun a k => (jτ33 a k).2, pτ33]
            split
            · rename_i hc54
              skip
              unfold w_X16_growTop_115
              try simp only [forall_eq, rII, rIJ, rIP, rJJ, rJI, rJP, rPP, rPI, rPJ, g1, g2, g3, g4, g5, g6, g7, g8, Nat.reduceEqDiff, Nat.reduceAdd, false_and, and_false, true_and, and_true, reduceIte, nZ0, nZ1, eτ33_71.1, eτ33_71.2, fun a k => (jτ33 a k).1, fun a k => (jτ33 a k).2, pτ33]
              split
              · rename_i hc119
                skip
                unfold w_X16_growTop_126
                try simp only [forall_eq, rII, rIJ, rIP, rJJ, rJI, rJP, rPP, rPI, rPJ, g1, g2, g3, g4, g5, g6, g7, g8, Nat.reduceEqDiff, Nat.reduceAdd, false_and, and_false, true_and, and_true, reduceIte, nZ0, nZ1, eτ33_71.1, eτ33_71.2, fun a k => (jτ33 a k).1, fun a k => (jτ33 a k).2, pτ33]
                unfold w_X16_growTop_127
                try simp only [forall_eq, rII, rIJ, rIP, rJJ, rJI, rJP, rPP, rPI, rPJ, g1, g2, g3, g4, g5, g6, g7, g8, Nat.reduceEqDiff, Nat.reduceAdd, false_and, and_false, true_and, and_true, reduceIte, nZ0, nZ1, eτ33_71.1, eτ33_71.2, fun a k => (jτ33 a k).1, fun a k => (jτ33 a k).2, pτ33]
                try rw [if_pos (by decide)]
                unfold w_X16_growTop_146
                try simp only [forall_eq, rII, rIJ, rIP, rJJ, rJI, rJP, rPP, rPI, rPJ, g1, g2, g3, g4, g5, g6, g7, g8, Nat.reduceEqDiff, Nat.reduceAdd, false_and, and_false, true_and, and_true, reduceIte, nZ0, nZ1, eτ33_71.1, eτ33_71.2, fun a k => (jτ33 a k).1, fun a k => (jτ33 a k).2, pτ33]
                refine ih33 _ _ ?_ ?_ ?_ ?_
                · exact rτ33
                · exact fτ33
                · first | exact ⟨⟨hre, hth⟩, by omega⟩ | exact ⟨p9.1, by omega⟩ | exact ⟨⟨⟨own, ps, hr, hm⟩, hth33⟩, by omega⟩
                · (try simp only [rII, rIJ, rIP, rJJ, rJI, rJP, rPP, rPI, rPJ, g1, g2, g3, g4, g5, g6, g7, g8, Nat.reduceEqDiff, Nat.reduceAdd, false_and, and_false, true_and, and_true, reduceIte, nZ0, nZ1, eτ33_71.1, eτ33_71.2, fun a k => (jτ33 a k).1, fun a k => (jτ33 a k).2, pτ33]) <;> (first | omega | with_reducible assumption | (unfold rng; omega) | (unfold rng; (repeat' split) <;> omega) | grind)
              · rename_i hc119
                skip
                unfold w_X16_growTop_122
                try simp only [forall_eq, rII, rIJ, rIP, rJJ, rJI, rJP, rPP, rPI, rPJ, g1, g2, g3, g4, g5, g6, g7, g8, Nat.reduceEqDiff, Nat.reduceAdd, false_and, and_false, true_and, and_true, reduceIte, nZ0, nZ1, eτ33_71.1, eτ33_71.2, fun a k => (jτ33 a k).1, fun a k => (jτ33 a k).2, pτ33]
                unfold w_X16_growTop_127
                try simp only [forall_eq, rII, rIJ, rIP, rJJ, rJI, rJP, rPP, rPI, rPJ, g1, g2, g3, g4, g5, g6, g7, g8, Nat.reduceEqDiff, Nat.reduceAdd, false_and, and_false, true_and, and_true, reduceIte, nZ0, nZ1, eτ33_71.1, eτ33_71.2, fun a k => (jτ33 a k).1, fun a k => (jτ33 a k).2, pτ33]
                try rw [if_neg (by decide)]
                unfold w_X16_growTop_134
                try simp only [forall_eq, rII, rIJ, rIP, rJJ, rJI, rJP, rPP, rPI, rPJ, g1, g2, g3, g4, g5, g6, g7, g8, Nat.reduceEqDiff, Nat.reduceAdd, false_and, and_false, true_and, and_true, reduceIte, nZ0, nZ1, eτ33_71.1, eτ33_71.2, fun a k => (jτ33 a k).1, fun a k => (jτ33 a k).2, pτ33]
                have hw9 := hi51.2.resolve_left (by assumption)
                refine s_X16_topOf g rτ33 (by first | exact hj | (rw [fτ33.2.2.2]; exact hj)) hja (by (try simp only [rII, rIJ, rIP, rJJ, rJI, rJP, rPP, rPI, rPJ, g1, g2, g3, g4, g5, g6, g7, g8, Nat.reduceEqDiff, Nat.reduceAdd, false_and, and_false, true_and, and_true, reduceIte, nZ0, nZ1, eτ33_71.1, eτ33_71.2, fun a k => (jτ33 a k).1, fun a k => (jτ33 a k).2, pτ33]) <;> exact Exists.elim hw9 (fun r0 a => ⟨own, ps, r0, hr, hm, a.1, a.2.1⟩)) hth33 (by (try simp only [rII, rIJ, rIP, rJJ, rJI, rJP, rPP, rPI, rPJ, g1, g2, g3, g4, g5, g6, g7, g8, Nat.reduceEqDiff, Nat.reduceAdd, false_and, and_false, true_and, and_true, reduceIte, nZ0, nZ1, eτ33_71.1, eτ33_71.2, fun a k => (jτ33 a k).1, fun a k => (jτ33 a k).2, pτ33]) <;> (first | omega | with_reducible assumption | (unfold rng; omega) | (unfold rng; (repeat' split) <;> omega) | grind)) (by (try simp only [rII, rIJ, rIP, rJJ, rJI, rJP, rPP, rPI, rPJ, g1, g2, g3, g4, g5, g6, g7, g8, Nat.reduceEqDiff, Nat.reduceAdd, false_and, and_false, true_and, and_true, reduceIte, nZ0, nZ1, eτ33_71.1, eτ33_71.2, fun a k => (jτ33 a k).1, fun a k => (jτ33 a k).2, pτ33]) <;> (first | omega | with_reducible assumption | (unfold rng; omega) | (unfold rng; (repeat' split) <;> omega) | grind)) (by (try simp only [rII, rIJ, rIP, rJJ, rJI, rJP, rPP, rPI, rPJ, g1, g2, g3, g4, g5, g6, g7, g8, Nat.reduceEqDiff, Nat.reduceAdd, false_and, and_false, true_and, and_true, reduceIte, nZ0, nZ1, eτ33_71.1, eτ33_71.2, fun a k => (jτ33 a k).1, fun a k => (jτ33 a k).2, pτ33]) <;> (first | omega | with_reducible assumption | (unfold rng; omega) | (unfold rng; (repeat' split) <;> omega) | grind)) (by (try simp only [rII, rIJ, rIP, rJJ, rJI, rJP, rPP, rPI, rPJ, g1, g2, g3, g4, g5, g6, g7, g8, Nat.reduceEqDiff, Nat.reduceAdd, false_and, and_false, true_and, and_true, reduceIte, nZ0, nZ1, eτ33_71.1, eτ33_71.2, fun a k => (jτ33 a k).1, fun a k => (jτ33 a k).2, pτ33]) <;> (first | omega | with_reducible assumption | (unfold rng; omega) | (unfold rng; (repeat' split) <;> omega) | grind)) (by obtain ⟨r0, a1, a2, a3⟩ := hw9; have w9 := i64_le a3; (try simp only [rII, rIJ, rIP, rJJ, rJI, rJP, rPP, rPI, rPJ, g1, g2, g3, g4, g5, g6, g7, g8, Nat.reduceEqDiff, Nat.reduceAdd, false_and, and_false, true_and, and_true, reduceIte, nZ0, nZ1, eτ33_71.1, eτ33_71.2, fun a k => (jτ33 a k).1, fun a k => (jτ33 a k).2, pτ33]) <;> omega) (by (try simp only [rII, rIJ, rIP, rJJ, rJI, rJP, rPP, rPI, rPJ, g1, g2, g3, g4, g5, g6, g7, g8, Nat.reduceEqDiff, Nat.reduceAdd, false_and, and_false, true_and, and_true, reduceIte, nZ0, nZ1, eτ33_71.1, eτ33_71.2, fun a k => (jτ33 a k).1, fun a k => (jτ33 a k).2, pτ33]) <;> (first | omega | with_reducible assumption | (unfold rng; omega) | (unfold rng; (repeat' split) <;> omega) | grind)) (by (try simp only [rII, rIJ, rIP, rJJ, rJI, rJP, rPP, rPI, rPJ, g1, g2, g3, g4, g5, g6, g7, g8, Nat.reduceEqDiff, Nat.reduceAdd, false_and, and_false, true_and, and_true, reduceIte, nZ0, nZ1, eτ33_71.1, eτ33_71.2, fun a k => (jτ33 a k).1, fun a k => (jτ33 a k).2, pτ33]) <;> first | exact hp | (rw [(fτ33.2.1 33 (by decide)).1]; exact hp)) (fun σ12 _ rσ12 fc p4 => ?_) (fun σx E rx fx px => hX _ _ rx (Fr.tr fτ33 (Fr.mor (fx) (by decide) (by decide))) px)
                have fσ12 : Fr ra jx rm [46, 47, 48, 49, 60, 61, 62, 63, 64, 65, 75, 76, 77, 78, 82] [66, 67, 79, 80] σ σ12 := Fr.tr fτ33 (Fr.mor (fc) (by decide) (by decide))
                have p9 := p4
                have q9 := p9.2
                have hb8 := rσ12.1 78 v1.toNat; simp only [rgT] at hb8
                have eσ12_71 := fσ12.1 71 (by decide)
                have jσ12 := fσ12.2.2.1
                have pσ12 := fσ12.2.2.2
                try simp only [forall_eq, rII, rIJ, rIP, rJJ, rJI, rJP, rPP, rPI, rPJ, g1, g2, g3, g4, g5, g6, g7, g8, Nat.reduceEqDiff, Nat.reduceAdd, false_and, and_false, true_and, and_true, reduceIte, nZ0, nZ1, eσ12_71.1, eσ12_71.2, fun a k => (jσ12 a k).1, fun a k => (jσ12 a k).2, pσ12]
                unfold w_X16_growTop_146
                try simp only [forall_eq, rII, rIJ, rIP, rJJ, rJI, rJP, rPP, rPI, rPJ, g1, g2, g3, g4, g5, g6, g7, g8, Nat.reduceEqDiff, Nat.reduceAdd, false_and, and_false, true_and, and_true, reduceIte, nZ0, nZ1, eσ12_71.1, eσ12_71.2, fun a k => (jσ12 a k).1, fun a k => (jσ12 a k).2, pσ12]
                refine ih33 _ _ ?_ ?_ ?_ ?_
                · exact rσ12
                · exact fσ12
                · first | exact ⟨⟨hre, hth⟩, by omega⟩ | exact ⟨p9.1, by omega⟩ | exact ⟨⟨⟨own, ps, hr, hm⟩, hth33⟩, by omega⟩
                · (try simp only [rII, rIJ, rIP, rJJ, rJI, rJP, rPP, rPI, rPJ, g1, g2, g3, g4, g5, g6, g7, g8, Nat.reduceEqDiff, Nat.reduceAdd, false_and, and_false, true_and, and_true, reduceIte, nZ0, nZ1, eσ12_71.1, eσ12_71.2, fun a k => (jσ12 a k).1, fun a k => (jσ12 a k).2, pσ12]) <;> (first | omega | with_reducible assumption | (unfold rng; omega) | (unfold rng; (repeat' split) <;> omega) | grind)
            · rename_i hc54
              skip
              unfold w_X16_growTop_57
              try simp only [forall_eq, rII, rIJ, rIP, rJJ, rJI, rJP, rPP, rPI, rPJ, g1, g2, g3, g4, g5, g6, g7, g8, Nat.reduceEqDiff, Nat.reduceAdd, false_and, and_false, true_and, and_true, reduceIte, nZ0, nZ1, eτ33_71.1, eτ33_71.2, fun a k => (jτ33 a k).1, fun a k => (jτ33 a k).2, pτ33]
              have hov := hi51.1.resolve_left (by assumption)
              have n11 := hr.nd hov h1
              refine ⟨by (first | omega | with_reducible assumption | (unfold rng; omega) | (unfold rng; (repeat' split) <;> omega) | grind), ?_⟩
              refine ⟨by (first | omega | with_reducible assumption | (unfold rng; omega) | (unfold rng; (repeat' split) <;> omega) | grind), ?_⟩
              split
              · rename_i hc81
                skip
                unfold w_X16_growTop_103
                try simp only [forall_eq, rII, rIJ, rIP, rJJ, rJI, rJP, rPP, rPI, rPJ, g1, g2, g3, g4, g5, g6, g7, g8, Nat.reduceEqDiff, Nat.reduceAdd, false_and, and_false, true_and, and_true, reduceIte, nZ0, nZ1, eτ33_71.1, eτ33_71.2, fun a k => (jτ33 a k).1, fun a k => (jτ33 a k).2, pτ33]
                refine ⟨by (first | omega | with_reducible assumption | (unfold rng; omega) | (unfold rng; (repeat' split) <;> omega) | grind), ?_⟩
                have q5 := rτ33.1 75 (v11.toNat); simp only [rgT] at q5
                refine ih51 _ _ ?_ ?_
                · first | exact ⟨hhd, Or.inl (by decide)⟩ | exact ⟨by omega, hi51.2⟩ | exact ⟨by omega, Or.inr ⟨v11, hov, rfl, by assumption⟩⟩
                · (try simp only [rII, rIJ, rIP, rJJ, rJI, rJP, rPP, rPI, rPJ, g1, g2, g3, g4, g5, g6, g7, g8, Nat.reduceEqDiff, Nat.reduceAdd, false_and, and_false, true_and, and_true, reduceIte, nZ0, nZ1, eτ33_71.1, eτ33_71.2, fun a k => (jτ33 a k).1, fun a k => (jτ33 a k).2, pτ33]) <;> (first | omega | with_reducible assumption | (unfold rng; omega) | (unfold rng; (repeat' split) <;> omega) | grind)
              · rename_i hc81
                skip
                unfold w_X16_growTop_84
                try simp only [forall_eq, rII, rIJ, rIP, rJJ, rJI, rJP, rPP, rPI, rPJ, g1, g2, g3, g4, g5, g6, g7, g8, Nat.reduceEqDiff, Nat.reduceAdd, false_and, and_false, true_and, and_true, reduceIte, nZ0, nZ1, eτ33_71.1, eτ33_71.2, fun a k => (jτ33 a k).1, fun a k => (jτ33 a k).2, pτ33]
                split
                · rename_i hc88
                  skip
                  unfold w_X16_growTop_99
                  try simp only [forall_eq, rII, rIJ, rIP, rJJ, rJI, rJP, rPP, rPI, rPJ, g1, g2, g3, g4, g5, g6, g7, g8, Nat.reduceEqDiff, Nat.reduceAdd, false_and, and_false, true_and, and_true, reduceIte, nZ0, nZ1, eτ33_71.1, eτ33_71.2, fun a k => (jτ33 a k).1, fun a k => (jτ33 a k).2, pτ33]
                  unfold w_X16_growTop_103
                  try simp only [forall_eq, rII, rIJ, rIP, rJJ, rJI, rJP, rPP, rPI, rPJ, g1, g2, g3, g4, g5, g6, g7, g8, Nat.reduceEqDiff, Nat.reduceAdd, false_and, and_false, true_and, and_true, reduceIte, nZ0, nZ1, eτ33_71.1, eτ33_71.2, fun a k => (jτ33 a k).1, fun a k => (jτ33 a k).2, pτ33]
                  refine ⟨by (first | omega | with_reducible assumption | (unfold rng; omega) | (unfold rng; (repeat' split) <;> omega) | grind), ?_⟩
                  have q6 := rτ33.1 75 (v11.toNat); simp only [rgT] at q6
                  refine ih51 _ _ ?_ ?_
                  · first | exact ⟨hhd, Or.inl (by decide)⟩ | exact ⟨by omega, hi51.2⟩ | exact ⟨by omega, Or.inr ⟨v11, hov, rfl, by assumption⟩⟩
                  · (try simp only [rII, rIJ, rIP, rJJ, rJI, rJP, rPP, rPI, rPJ, g1, g2, g3, g4, g5, g6, g7, g8, Nat.reduceEqDiff, Nat.reduceAdd, false_and, and_false, true_and, and_true, reduceIte, nZ0, nZ1, eτ33_71.1, eτ33_71.2, fun a k => (jτ33 a k).1, fun a k => (jτ33 a k).2, pτ33]) <;> (first | omega | with_reducible assumption | (unfold rng; omega) | (unfold rng; (repeat' split) <;> omega) | grind)
                · rename_i hc88
                  skip
                  unfold w_X16_growTop_91
                  try simp only [forall_eq, rII, rIJ, rIP, rJJ, rJI, rJP, rPP, rPI, rPJ, g1, g2, g3, g4, g5, g6, g7, g8, Nat.reduceEqDiff, Nat.reduceAdd, false_and, and_false, true_and, and_true, reduceIte, nZ0, nZ1, eτ33_71.1, eτ33_71.2, fun a k => (jτ33 a k).1, fun a k => (jτ33 a k).2, pτ33]
                  split
                  · rename_i hc96
                    skip
                    unfold w_X16_growTop_103
                    try simp only [forall_eq, rII, rIJ, rIP, rJJ, rJI, rJP, rPP, rPI, rPJ, g1, g2, g3, g4, g5, g6, g7, g8, Nat.reduceEqDiff, Nat.reduceAdd, false_and, and_false, true_and, and_true, reduceIte, nZ0, nZ1, eτ33_71.1, eτ33_71.2, fun a k => (jτ33 a k).1, fun a k => (jτ33 a k).2, pτ33]
                    refine ⟨by (first | omega | with_reducible assumption | (unfold rng; omega) | (unfold rng; (repeat' split) <;> omega) | grind), ?_⟩
                    have q7 := rτ33.1 75 (v11.toNat); simp only [rgT] at q7
                    refine ih51 _ _ ?_ ?_
                    · first | exact ⟨hhd, Or.inl (by decide)⟩ | exact ⟨by omega, hi51.2⟩ | exact ⟨by omega, Or.inr ⟨v11, hov, rfl, by assumption⟩⟩
                    · (try simp only [rII, rIJ, rIP, rJJ, rJI, rJP, rPP, rPI, rPJ, g1, g2, g3, g4, g5, g6, g7, g8, Nat.reduceEqDiff, Nat.reduceAdd, false_and, and_false, true_and, and_true, reduceIte, nZ0, nZ1, eτ33_71.1, eτ33_71.2, fun a k => (jτ33 a k).1, fun a k => (jτ33 a k).2, pτ33]) <;> (first | omega | with_reducible assumption | (unfold rng; omega) | (unfold rng; (repeat' split) <;> omega) | grind)
                  · rename_i hc96
                    skip
                    unfold w_X16_growTop_99
                    try simp only [forall_eq, rII, rIJ, rIP, rJJ, rJI, rJP, rPP, rPI, rPJ, g1, g2, g3, g4, g5, g6, g7, g8, Nat.reduceEqDiff, Nat.reduceAdd, false_and, and_false, true_and, and_true, reduceIte, nZ0, nZ1, eτ33_71.1, eτ33_71.2, fun a k => (jτ33 a k).1, fun a k => (jτ33 a k).2, pτ33]
                    unfold w_X16_growTop_103
                    try simp only [forall_eq, rII, rIJ, rIP, rJJ, rJI, rJP, rPP, rPI, rPJ, g1, g2, g3, g4, g5, g6, g7, g8, Nat.reduceEqDiff, Nat.reduceAdd, false_and, and_false, true_and, and_true, reduceIte, nZ0, nZ1, eτ33_71.1, eτ33_71.2, fun a k => (jτ33 a k).1, fun a k => (jτ33 a k).2, pτ33]
                    refine ⟨by (first | omega | with_reducible assumption | (unfold rng; omega) | (unfold rng; (repeat' split) <;> omega) | grind), ?_⟩
                    have q8 := rτ33.1 75 (v11.toNat); simp only [rgT] at q8
                    refine ih51 _ _ ?_ ?_
                    · first | exact ⟨hhd, Or.inl (by decide)⟩ | exact ⟨by omega, hi51.2⟩ | exact ⟨by omega, Or.inr ⟨v11, hov, rfl, by assumption⟩⟩
                    · (try simp only [rII, rIJ, rIP, rJJ, rJI, rJP, rPP, rPI, rPJ, g1, g2, g3, g4, g5, g6, g7, g8, Nat.reduceEqDiff, Nat.reduceAdd, false_and, and_false, true_and, and_true, reduceIte, nZ0, nZ1, eτ33_71.1, eτ33_71.2, fun a k => (jτ33 a k).1, fun a k => (jτ33 a k).2, pτ33]) <;> (first | omega | with_reducible assumption | (unfold rng; omega) | (unfold rng; (repeat' split) <;> omega) | grind)
        refine ⟨_, L51 _ _ _ ?_ (Nat.lt_succ_self _)⟩
        · first | exact ⟨hhd, Or.inl (by decide)⟩ | exact ⟨by omega, hi51.2⟩ | exact ⟨by omega, Or.inr ⟨v11, hov, rfl, by assumption⟩⟩
  refine ⟨_, L33 _ _ _ ?_ ?_ ?_ (Nat.lt_succ_self _)⟩
  · exact rσ
  · exact fσ
  · first | exact ⟨⟨hre, hth⟩, by omega⟩ | exact ⟨p9.1, by omega⟩ | exact ⟨⟨⟨own, ps, hr, hm⟩, hth33⟩, by omega⟩
set_option maxHeartbeats 16000000 in
theorem s_X16_matchRow {ra : Nat → Nat} {jx : Nat → Nat → Nat} {rm : Nat} {ja : Nat} {own0 : Int → Int} {ps0 : Int → Int} (g : Geo ra jx rm) {σ : Sg} {v1 : Int} {v2 : Int} {v3 : Int64} {v5 : Int64} {v7 : Int} (rσ : Rg ra jx rm σ) (hj : gP σ rm 17 = some ja) (hja : ja = ra 15 ∨ ja = ra 16) (hrec : RecI ra rm σ own0 ps0) (hmt : MtI ra jx ja σ own0) (hth : ThE ra rm σ) (h1 : 0 ≤ v1 ∧ v1 < 64) (h2 : 0 ≤ v2 ∧ v2 < 16) (h5 : v5.toInt ≤ 4611686018427387904) (h7 : 0 ≤ v7 ∧ v7 < 30000) (hp : 1 ≤ gI σ rm 33) (hto : gI σ (ra 38) v1.toNat = v2) (hk8 : gI σ (jx ja 2) v2.toNat = 8) (hva : 2 ≤ gI σ (jx ja 12) v2.toNat) (hvs : ∀ k, 0 ≤ k → k < gI σ (jx ja 12) v2.toNat → PO jx ja σ (gI σ (jx ja 13) (8 * v2 + k).toNat)) {Q : Sg → Unit → Prop} {X : Sg → String → Prop} (hQ : ∀ (σ' : Sg) (r : Unit), Rg ra jx rm σ' → Fr ra jx rm [20, 26, 46, 47, 48, 49, 60, 61, 62, 63, 64, 65, 68, 69, 70, 71, 72, 73, 74, 75, 76, 77, 78, 82] [21, 27, 66, 67, 79, 80] σ σ' → (∃ own ps, (RecI ra rm σ' own ps ∧ MtI ra jx ja σ' own) ∧ ThE ra rm σ' ∧ cz ra σ' own v1 ≤ cz ra σ own0 v1) → Q σ' r) (hX : ∀ (σ' : Sg) (E : String), Rg ra jx rm σ' → Fr ra jx rm [20, 26, 46, 47, 48, 49, 60, 61, 62, 63, 64, 65, 68, 69, 70, 71, 72, 73, 74, 75, 76, 77, 78, 82] [21, 27, 66, 67, 79, 80] σ σ' → (E = "StreamHouseModel$Broken" ∧ ThE ra rm σ' ∧ RecE ra jx rm ja σ') → X σ' E) : wp_X16_matchRow ra jx rm v1 v2 v3 v5 v7 σ Q X := by
  obtain ⟨g1, g2, g3, g4, g5, g6, g7, g8⟩ := id g
  have fσ : Fr ra jx rm [20, 26, 46, 47, 48, 49, 60, 61, 62, 63, 64, 65, 68, 69, 70, 71, 72, 73, 74, 75, 76, 77, 78, 82] [21, 27, 66, 67, 79, 80] σ σ := Fr.rf
  have hv8 := rσ.2.2.1 ja 12 v2.toNat; simp only [rgJ] at hv8
  unfold wp_X16_matchRow
  unfold w_X16_matchRow_0
  try simp only [forall_eq, rII, rIJ, rIP, rJJ, rJI, rJP, rPP, rPI, rPJ, g1, g2, g3, g4, g5, g6, g7, g8, Nat.reduceEqDiff, Nat.reduceAdd, false_and, and_false, true_and, and_true, reduceIte, nZ0, nZ1]
  refine ⟨by (first | omega | with_reducible assumption | (unfold rng; omega) | (unfold rng; (repeat' split) <;> omega) | grind), ?_⟩
  have q1 := rσ.1 76 (v1.toNat); simp only [rgT] at q1
  have L8 : ∀ (fu8 : Nat) (τ8 : Sg) (v8 : Int), Rg ra jx rm τ8 → Fr ra jx rm [20, 26, 46, 47, 48, 49, 60, 61, 62, 63, 64, 65, 68, 69, 70, 71, 72, 73, 74, 75, 76, 77, 78, 82] [21, 27, 66, 67, 79, 80] σ τ8 → (∃ own ps, ((((RecI ra rm τ8 own ps ∧ MtI ra jx ja τ8 own) ∧ ThE ra rm τ8) ∧ (v8 = -1 ∨ own v8 = v1)) ∧ cz ra τ8 own v1 ≤ cz ra σ own0 v1) ∧ (lmm ra τ8 v1 ps v8) < fu8) → (0) < 1 + 0 * 8 → wl_X16_matchRow_8 ra jx rm Q X fu8 τ8 v1 v2 v3 v5 v7 v8 := by
    intro fu8
    induction fu8 with
    | zero => intro τ8 _ _ _ h9 _; obtain ⟨_, _, h9⟩ := h9; omega
    | succ fu8 ih8 =>
      intro τ8 v8 rτ8 fτ8 hi8 hm8
      obtain ⟨own, ps, hi8, hm8⟩ := hi8
      unfold wl_X16_matchRow_8
      have eτ8_38 := fτ8.1 38 (by decide)
      have jτ8 := fτ8.2.2.1
      have pτ8 := fτ8.2.2.2
      unfold w_X16_matchRow_8
      try simp only [forall_eq, rII, rIJ, rIP, rJJ, rJI, rJP, rPP, rPI, rPJ, g1, g2, g3, g4, g5, g6, g7, g8, Nat.reduceEqDiff, Nat.reduceAdd, false_and, and_false, true_and, and_true, reduceIte, nZ0, nZ1, eτ8_38.1, eτ8_38.2, fun a k => (jτ8 a k).1, fun a k => (jτ8 a k).2, pτ8]
      have hrA := hi8.1.1.1.1; have hmA := hi8.1.1.1.2; have htA := hi8.1.1.2; have hcA := hi8.2
      split
      · rename_i hc11
        skip
        unfold w_X16_matchRow_82
        try simp only [forall_eq, rII, rIJ, rIP, rJJ, rJI, rJP, rPP, rPI, rPJ, g1, g2, g3, g4, g5, g6, g7, g8, Nat.reduceEqDiff, Nat.reduceAdd, false_and, and_false, true_and, and_true, reduceIte, nZ0, nZ1, eτ8_38.1, eτ8_38.2, fun a k => (jτ8 a k).1, fun a k => (jτ8 a k).2, pτ8]
        refine ⟨by (first | omega | with_reducible assumption | (unfold rng; omega) | (unfold rng; (repeat' split) <;> omega) | grind), ?_⟩
        have q2 := rτ8.1 76 (v1.toNat); simp only [rgT] at q2
        have L90 : ∀ (fu90 : Nat) (τ90 : Sg) (v8 : Int), Rg ra jx rm τ90 → Fr ra jx rm [20, 26, 46, 47, 48, 49, 60, 61, 62, 63, 64, 65, 68, 69, 70, 71, 72, 73, 74, 75, 76, 77, 78, 82] [21, 27, 66, 67, 79, 80] σ τ90 → (∃ own ps, ((((RecI ra rm τ90 own ps ∧ MtI ra jx ja τ90 own) ∧ ThE ra rm τ90) ∧ (v8 = -1 ∨ own v8 = v1)) ∧ cz ra τ90 own v1 ≤ cz ra σ own0 v1) ∧ (lmm ra τ90 v1 ps v8) < fu90) → (0) < 1 + 0 * 90 → wl_X16_matchRow_90 ra jx rm Q X fu90 τ90 v1 v2 v3 v5 v7 v8 := by
          intro fu90
          induction fu90 with
          | zero => intro τ90 _ _ _ h9 _; obtain ⟨_, _, h9⟩ := h9; omega
          | succ fu90 ih90 =>
            intro τ90 v8 rτ90 fτ90 hi90 hm90
            obtain ⟨own, ps, hi90, hm90⟩ := hi90
            unfold wl_X16_matchRow_90
            have eτ90_38 := fτ90.1 38 (by decide)
            have jτ90 := fτ90.2.2.1
            have pτ90 := fτ90.2.2.2
            unfold w_X16_matchRow_90
            try simp only [forall_eq, rII, rIJ, rIP, rJJ, rJI, rJP, rPP, rPI, rPJ, g1, g2, g3, g4, g5, g6, g7, g8, Nat.reduceEqDiff, Nat.reduceAdd, false_and, and_false, true_and, and_true, reduceIte, nZ0, nZ1, eτ90_38.1, eτ90_38.2, fun a k => (jτ90 a k).1, fun a k => (jτ90 a k).2, pτ90]
            have hrA := hi90.1.1.1.1; have hmA := hi90.1.1.1.2; have htA := hi90.1.1.2; have hcA := hi90.2
            split
            · rename_i hc93
              skip
              unfold w_X16_matchRow_309
              try simp only [forall_eq, rII, rIJ, rIP, rJJ, rJI, rJP, rPP, rPI, rPJ, g1, g2, g3, g4, g5, g6, g7, g8, Nat.reduceEqDiff, Nat.reduceAdd, false_and, and_false, true_and, and_true, reduceIte, nZ0, nZ1, eτ90_38.1, eτ90_38.2, fun a k => (jτ90 a k).1, fun a k => (jτ90 a k).2, pτ90]
              refine ⟨ja, by exact hj, hja, ?_⟩
              refine ⟨by (first | omega | with_reducible assumption | (unfold rng; omega) | (unfold rng; (repeat' split) <;> omega) | grind), ?_⟩
              refine ⟨by (first | omega | with_reducible assumption | (unfold rng; omega) | (unfold rng; (repeat' split) <;> omega) | grind), ?_⟩
              have q3 := rσ.2.2.1 ja 13 ((8 * v2).toNat); simp only [rgJ] at q3
              refine s_X16_worth (b5 := (ra 81)) (n5 := 8) g rτ90 rfl (Or.inl ⟨81, rfl, by decide⟩) (by first | exact hj | (rw [fτ90.2.2.2]; exact hj)) hja (by (try simp only [rII, rIJ, rIP, rJJ, rJI, rJP, rPP, rPI, rPJ, g1, g2, g3, g4, g5, g6, g7, g8, Nat.reduceEqDiff, Nat.reduceAdd, false_and, and_false, true_and, and_true, reduceIte, nZ0, nZ1, eτ90_38.1, eτ90_38.2, fun a k => (jτ90 a k).1, fun a k => (jτ90 a k).2, pτ90]) <;> (have w8 := hvs 0 (by omega) (by omega); rw [show 8 * v2 + 0 = 8 * v2 by omega] at w8; exact PO.fr w8 hja fτ90 (by decide))) (by (try simp only [rII, rIJ, rIP, rJJ, rJI, rJP, rPP, rPI, rPJ, g1, g2, g3, g4, g5, g6, g7, g8, Nat.reduceEqDiff, Nat.reduceAdd, false_and, and_false, true_and, and_true, reduceIte, nZ0, nZ1, eτ90_38.1, eτ90_38.2, fun a k => (jτ90 a k).1, fun a k => (jτ90 a k).2, pτ90]) <;> (first | omega | with_reducible assumption | (unfold rng; omega) | (unfold rng; (repeat' split) <;> omega) | grind)) (by (try simp only [rII, rIJ, rIP, rJJ, rJI, rJP, rPP, rPI, rPJ, g1, g2, g3, g4, g5, g6, g7, g8, Nat.reduceEqDiff, Nat.reduceAdd, false_and, and_false, true_and, and_true, reduceIte, nZ0, nZ1, eτ90_38.1, eτ90_38.2, fun a k => (jτ90 a k).1, fun a k => (jτ90 a k).2, pτ90]) <;> (first | omega | with_reducible assumption | (unfold rng; omega) | (unfold rng; (repeat' split) <;> omega) | grind)) (fun σ44 r45 rσ44 fc p4 => ?_)
              have fσ44 : Fr ra jx rm [20, 26, 46, 47, 48, 49, 60, 61, 62, 63, 64, 65, 68, 69, 70, 71, 72, 73, 74, 75, 76, 77, 78, 82] [21, 27, 66, 67, 79, 80] σ σ44 := Fr.tr fτ90 (Fr.mor (fc) (by decide) (by decide))
              have hrA := RecI.fr hrA fc (by decide) (by decide)
              have hmA := MtI.fr hmA fc (by decide)
              have htA := ThE.fr htA fc (by decide) (by decide)
              have hcA : cz ra σ44 own v1 ≤ cz ra σ own0 v1 := by rw [cz_fr (fc.1 68 (by decide)).1]; exact hcA
              have eσ44_38 := fσ44.1 38 (by decide)
              have jσ44 := fσ44.2.2.1
              have pσ44 := fσ44.2.2.2
              try simp only [forall_eq, rII, rIJ, rIP, rJJ, rJI, rJP, rPP, rPI, rPJ, g1, g2, g3, g4, g5, g6, g7, g8, Nat.reduceEqDiff, Nat.reduceAdd, false_and, and_false, true_and, and_true, reduceIte, nZ0, nZ1, eσ44_38.1, eσ44_38.2, fun a k => (jσ44 a k).1, fun a k => (jσ44 a k).2, pσ44]
              split
              · rename_i hc338
                skip
                unfold w_X16_matchRow_359
                try simp only [forall_eq, rII, rIJ, rIP, rJJ, rJI, rJP, rPP, rPI, rPJ, g1, g2, g3, g4, g5, g6, g7, g8, Nat.reduceEqDiff, Nat.reduceAdd, false_and, and_false, true_and, and_true, reduceIte, nZ0, nZ1, eσ44_38.1, eσ44_38.2, fun a k => (jσ44 a k).1, fun a k => (jσ44 a k).2, pσ44]
                refine hQ _ _ ?_ ?_ ?_
                · exact rσ44
                · exact fσ44
                · first | exact ⟨_, _, ⟨re8, me8⟩, te8, by omega⟩ | exact ⟨own, ps, ⟨hrA, hmA⟩, htA, hcA⟩
              · rename_i hc338
                skip
                unfold w_X16_matchRow_341
                try simp only [forall_eq, rII, rIJ, rIP, rJJ, rJI, rJP, rPP, rPI, rPJ, g1, g2, g3, g4, g5, g6, g7, g8, Nat.reduceEqDiff, Nat.reduceAdd, false_and, and_false, true_and, and_true, reduceIte, nZ0, nZ1, eσ44_38.1, eσ44_38.2, fun a k => (jσ44 a k).1, fun a k => (jσ44 a k).2, pσ44]
                refine s_X16_record (b9 := (ra 81)) (n9 := 8) g rσ44 rfl (Or.inl ⟨81, rfl, by decide⟩) (by assumption) (by (try simp only [rII, rIJ, rIP, rJJ, rJI, rJP, rPP, rPI, rPJ, g1, g2, g3, g4, g5, g6, g7, g8, Nat.reduceEqDiff, Nat.reduceAdd, false_and, and_false, true_and, and_true, reduceIte, nZ0, nZ1, eσ44_38.1, eσ44_38.2, fun a k => (jσ44 a k).1, fun a k => (jσ44 a k).2, pσ44]) <;> (first | omega | with_reducible assumption | (unfold rng; omega) | (unfold rng; (repeat' split) <;> omega) | grind)) (by (try simp only [rII, rIJ, rIP, rJJ, rJI, rJP, rPP, rPI, rPJ, g1, g2, g3, g4, g5, g6, g7, g8, Nat.reduceEqDiff, Nat.reduceAdd, false_and, and_false, true_and, and_true, reduceIte, nZ0, nZ1, eσ44_38.1, eσ44_38.2, fun a k => (jσ44 a k).1, fun a k => (jσ44 a k).2, pσ44]) <;> (first | omega | with_reducible assumption | (unfold rng; omega) | (unfold rng; (repeat' split) <;> omega) | grind)) h5 (by (try simp only [rII, rIJ, rIP, rJJ, rJI, rJP, rPP, rPI, rPJ, g1, g2, g3, g4, g5, g6, g7, g8, Nat.reduceEqDiff, Nat.reduceAdd, false_and, and_false, true_and, and_true, reduceIte, nZ0, nZ1, eσ44_38.1, eσ44_38.2, fun a k => (jσ44 a k).1, fun a k => (jσ44 a k).2, pσ44]) <;> (first | omega | with_reducible assumption | (unfold rng; omega) | (unfold rng; (repeat' split) <;> omega) | grind)) (by (try simp only [rII, rIJ, rIP, rJJ, rJI, rJP, rPP, rPI, rPJ, g1, g2, g3, g4, g5, g6, g7, g8, Nat.reduceEqDiff, Nat.reduceAdd, false_and, and_false, true_and, and_true, reduceIte, nZ0, nZ1, eσ44_38.1, eσ44_38.2, fun a k => (jσ44 a k).1, fun a k => (jσ44 a k).2, pσ44]) <;> (first | omega | with_reducible assumption | (unfold rng; omega) | (unfold rng; (repeat' split) <;> omega) | grind)) (by (try simp only [rII, rIJ, rIP, rJJ, rJI, rJP, rPP, rPI, rPJ, g1, g2, g3, g4, g5, g6, g7, g8, Nat.reduceEqDiff, Nat.reduceAdd, false_and, and_false, true_and, and_true, reduceIte, nZ0, nZ1, eσ44_38.1, eσ44_38.2, fun a k => (jσ44 a k).1, fun a k => (jσ44 a k).2, pσ44]) <;> (first | omega | with_reducible assumption | (unfold rng; omega) | (unfold rng; (repeat' split) <;> omega) | grind)) (fun σ46 r47 rσ46 fc p5 => ?_) (fun σx E rx fx px => hX _ _ rx (Fr.tr fσ44 (Fr.mor (fx) (by decide) (by decide))) (by obtain ⟨e1, e2⟩ := px; subst e2; exact ⟨e1, htA, _, _, hrA, hmA⟩))
                have fσ46 : Fr ra jx rm [20, 26, 46, 47, 48, 49, 60, 61, 62, 63, 64, 65, 68, 69, 70, 71, 72, 73, 74, 75, 76, 77, 78, 82] [21, 27, 66, 67, 79, 80] σ σ46 := Fr.tr fσ44 (Fr.mor (fc) (by decide) (by decide))
                have re8 := p5.1
                have me8 := MtI.more hmA fc (by decide) h1 p5.2.2.2.1 p5.2.2.2.2.1 p5.2.2.2.2.2 (fun a q => (hrA.nd (a := a) rfl q).1.1) (fun q _ => ⟨by decide, by (try simp only [rII, rIJ, rIP, rJJ, rJI, rJP, rPP, rPI, rPJ, g1, g2, g3, g4, g5, g6, g7, g8, Nat.reduceEqDiff, Nat.reduceAdd, false_and, and_false, true_and, and_true, reduceIte, nZ0, nZ1, eσ44_38.1, eσ44_38.2, fun a k => (jσ44 a k).1, fun a k => (jσ44 a k).2, pσ44, hto]) <;> (rw [show (1 : Int64).toInt = 1 from rfl]; omega)⟩)
                have te8 := ThE.fr htA fc (by decide) (by decide)
                have cz8 := cz_rec (σ := σ44) (T := v1) (U := v1) h1 p5.2.1 p5.2.2.1.1 (by omega) p5.2.2.2.1 (fun a h0 hn => (p5.2.2.2.2.2 a h0 hn).1)
                have eσ46_38 := fσ46.1 38 (by decide)
                have jσ46 := fσ46.2.2.1
                have pσ46 := fσ46.2.2.2
                try simp only [forall_eq, rII, rIJ, rIP, rJJ, rJI, rJP, rPP, rPI, rPJ, g1, g2, g3, g4, g5, g6, g7, g8, Nat.reduceEqDiff, Nat.reduceAdd, false_and, and_false, true_and, and_true, reduceIte, nZ0, nZ1, eσ46_38.1, eσ46_38.2, fun a k => (jσ46 a k).1, fun a k => (jσ46 a k).2, pσ46]
                unfold w_X16_matchRow_359
                try simp only [forall_eq, rII, rIJ, rIP, rJJ, rJI, rJP, rPP, rPI, rPJ, g1, g2, g3, g4, g5, g6, g7, g8, Nat.reduceEqDiff, Nat.reduceAdd, false_and, and_false, true_and, and_true, reduceIte, nZ0, nZ1, eσ46_38.1, eσ46_38.2, fun a k => (jσ46 a k).1, fun a k => (jσ46 a k).2, pσ46]
                refine hQ _ _ ?_ ?_ ?_
                · exact rσ46
                · exact fσ46
                · first | exact ⟨_, _, ⟨re8, me8⟩, te8, by omega⟩ | exact ⟨own, ps, ⟨hrA, hmA⟩, htA, hcA⟩
            · rename_i hc93
              skip
              unfold w_X16_matchRow_96
              try simp only [forall_eq, rII, rIJ, rIP, rJJ, rJI, rJP, rPP, rPI, rPJ, g1, g2, g3, g4, g5, g6, g7, g8, Nat.reduceEqDiff, Nat.reduceAdd, false_and, and_false, true_and, and_true, reduceIte, nZ0, nZ1, eτ90_38.1, eτ90_38.2, fun a k => (jτ90 a k).1, fun a k => (jτ90 a k).2, pτ90]
              have hov := hi90.1.2.resolve_left (by assumption)
              have n8 := hrA.nd hov h1
              have n80 : 0 ≤ v8 := n8.1.1
              have nn9 : ∀ a, 0 ≤ own a ∧ own a < 64 → 0 ≤ a := fun a q => (hrA.nd (a := a) rfl q).1.1
              have nn8 : ∀ a, 0 ≤ up own v8 64 a ∧ up own v8 64 a < 64 → 0 ≤ a := fun a q => by by_cases w : a = v8; (rw [w]; exact n80); (simp only [up, if_neg w] at q; exact nn9 a q)
              refine ⟨by (first | omega | with_reducible assumption | (unfold rng; omega) | (unfold rng; (repeat' split) <;> omega) | grind), ?_⟩
              refine ⟨by (first | omega | with_reducible assumption | (unfold rng; omega) | (unfold rng; (repeat' split) <;> omega) | grind), ?_⟩
              have q6 := rτ90.1 68 (v8.toNat); simp only [rgT] at q6
              split
              · rename_i hc113
                skip
                unfold w_X16_matchRow_302
                try simp only [forall_eq, rII, rIJ, rIP, rJJ, rJI, rJP, rPP, rPI, rPJ, g1, g2, g3, g4, g5, g6, g7, g8, Nat.reduceEqDiff, Nat.reduceAdd, false_and, and_false, true_and, and_true, reduceIte, nZ0, nZ1, eτ90_38.1, eτ90_38.2, fun a k => (jτ90 a k).1, fun a k => (jτ90 a k).2, pτ90]
                have q7 := rτ90.1 75 (v8.toNat); simp only [rgT] at q7
                refine ih90 _ _ ?_ ?_ ?_ ?_
                · exact rτ90
                · exact fτ90
                · first | exact stepDX hrA h1 hov re9 q79 me9 pe9 e68 hcA hm90 | exact stepKX hrA rW mW tW h1 hov e78 e68 hcA hm90 | exact stepKX hrA hrA hmA htA h1 hov rfl rfl hcA hm90 | exact stepKX hrA (RecI.fr (jx := jx) (K := [72, 74]) (S := []) rJ (by repeat (first | exact Fr.rf | assumption | refine Fr.aJ g ?_ (by decide) | refine Fr.aI g ?_ (by decide) | refine Fr.sI g ?_ (by decide) | refine Fr.sJ g ?_ (by decide))) (by decide) (by decide)) (MtI.inc mJ n80 nn9 (by funext a9; (try simp only [rII, rIJ, rIP, rJJ, rJI, rJP, rPP, rPI, rPJ, g1, g2, g3, g4, g5, g6, g7, g8, Nat.reduceEqDiff, Nat.reduceAdd, false_and, and_false, true_and, and_true, reduceIte, nZ0, nZ1, eτ90_38.1, eτ90_38.2, fun a k => (jτ90 a k).1, fun a k => (jτ90 a k).2, pτ90]) <;> first | rfl | omega | grind) (by funext a9; (try simp only [rII, rIJ, rIP, rJJ, rJI, rJP, rPP, rPI, rPJ, g1, g2, g3, g4, g5, g6, g7, g8, Nat.reduceEqDiff, Nat.reduceAdd, false_and, and_false, true_and, and_true, reduceIte, nZ0, nZ1, eτ90_38.1, eτ90_38.2, fun a k => (jτ90 a k).1, fun a k => (jτ90 a k).2, pτ90]) <;> first | rfl | omega | grind) (by funext a9; (try simp only [rII, rIJ, rIP, rJJ, rJI, rJP, rPP, rPI, rPJ, g1, g2, g3, g4, g5, g6, g7, g8, Nat.reduceEqDiff, Nat.reduceAdd, false_and, and_false, true_and, and_true, reduceIte, nZ0, nZ1, eτ90_38.1, eτ90_38.2, fun a k => (jτ90 a k).1, fun a k => (jτ90 a k).2, pτ90]) <;> first | rfl | omega | grind) (by funext a9; (try simp only [rII, rIJ, rIP, rJJ, rJI, rJP, rPP, rPI, rPJ, g1, g2, g3, g4, g5, g6, g7, g8, Nat.reduceEqDiff, Nat.reduceAdd, false_and, and_false, true_and, and_true, reduceIte, nZ0, nZ1, eτ90_38.1, eτ90_38.2, fun a k => (jτ90 a k).1, fun a k => (jτ90 a k).2, pτ90]) <;> first | rfl | omega | grind) (by intros; (try simp only [rII, rIJ, rIP, rJJ, rJI, rJP, rPP, rPI, rPJ, g1, g2, g3, g4, g5, g6, g7, g8, Nat.reduceEqDiff, Nat.reduceAdd, false_and, and_false, true_and, and_true, reduceIte, nZ0, nZ1, eτ90_38.1, eτ90_38.2, fun a k => (jτ90 a k).1, fun a k => (jτ90 a k).2, pτ90]) <;> (repeat' split) <;> first | rfl | omega | grind) (fun _ => by rw [hov]; (try simp only [rII, rIJ, rIP, rJJ, rJI, rJP, rPP, rPI, rPJ, g1, g2, g3, g4, g5, g6, g7, g8, Nat.reduceEqDiff, Nat.reduceAdd, false_and, and_false, true_and, and_true, reduceIte, nZ0, nZ1, eτ90_38.1, eτ90_38.2, fun a k => (jτ90 a k).1, fun a k => (jτ90 a k).2, pτ90, hto]) <;> (have z6 := l6.1 (by assumption); omega))) (ThE.fr (jx := jx) (K := [72, 74]) (S := []) tJ (by repeat (first | exact Fr.rf | assumption | refine Fr.aJ g ?_ (by decide) | refine Fr.aI g ?_ (by decide) | refine Fr.sI g ?_ (by decide) | refine Fr.sJ g ?_ (by decide))) (by decide) (by decide)) h1 hov (by (try simp only [rII, rIJ, rIP, rJJ, rJI, rJP, rPP, rPI, rPJ, g1, g2, g3, g4, g5, g6, g7, g8, Nat.reduceEqDiff, Nat.reduceAdd, false_and, and_false, true_and, and_true, reduceIte, nZ0, nZ1, eτ90_38.1, eτ90_38.2, fun a k => (jτ90 a k).1, fun a k => (jτ90 a k).2, pτ90]) <;> exact e78) (by funext a9; (try simp only [rII, rIJ, rIP, rJJ, rJI, rJP, rPP, rPI, rPJ, g1, g2, g3, g4, g5, g6, g7, g8, Nat.reduceEqDiff, Nat.reduceAdd, false_and, and_false, true_and, and_true, reduceIte, nZ0, nZ1, eτ90_38.1, eτ90_38.2, fun a k => (jτ90 a k).1, fun a k => (jτ90 a k).2, pτ90]) <;> exact congrFun e68 a9) hcA hm90
                · omega
              · rename_i hc113
                skip
                unfold w_X16_matchRow_116
                try simp only [forall_eq, rII, rIJ, rIP, rJJ, rJI, rJP, rPP, rPI, rPJ, g1, g2, g3, g4, g5, g6, g7, g8, Nat.reduceEqDiff, Nat.reduceAdd, false_and, and_false, true_and, and_true, reduceIte, nZ0, nZ1, eτ90_38.1, eτ90_38.2, fun a k => (jτ90 a k).1, fun a k => (jτ90 a k).2, pτ90]
                refine ⟨by (first | omega | with_reducible assumption | (unfold rng; omega) | (unfold rng; (repeat' split) <;> omega) | grind), ?_⟩
                split
                · rename_i hc125
                  skip
                  unfold w_X16_matchRow_302
                  try simp only [forall_eq, rII, rIJ, rIP, rJJ, rJI, rJP, rPP, rPI, rPJ, g1, g2, g3, g4, g5, g6, g7, g8, Nat.reduceEqDiff, Nat.reduceAdd, false_and, and_false, true_and, and_true, reduceIte, nZ0, nZ1, eτ90_38.1, eτ90_38.2, fun a k => (jτ90 a k).1, fun a k => (jτ90 a k).2, pτ90]
                  have q8 := rτ90.1 75 (v8.toNat); simp only [rgT] at q8
                  refine ih90 _ _ ?_ ?_ ?_ ?_
                  · exact rτ90
                  · exact fτ90
                  · first | exact stepDX hrA h1 hov re9 q79 me9 pe9 e68 hcA hm90 | exact stepKX hrA rW mW tW h1 hov e78 e68 hcA hm90 | exact stepKX hrA hrA hmA htA h1 hov rfl rfl hcA hm90 | exact stepKX hrA (RecI.fr (jx := jx) (K := [72, 74]) (S := []) rJ (by repeat (first | exact Fr.rf | assumption | refine Fr.aJ g ?_ (by decide) | refine Fr.aI g ?_ (by decide) | refine Fr.sI g ?_ (by decide) | refine Fr.sJ g ?_ (by decide))) (by decide) (by decide)) (MtI.inc mJ n80 nn9 (by funext a9; (try simp only [rII, rIJ, rIP, rJJ, rJI, rJP, rPP, rPI, rPJ, g1, g2, g3, g4, g5, g6, g7, g8, Nat.reduceEqDiff, Nat.reduceAdd, false_and, and_false, true_and, and_true, reduceIte, nZ0, nZ1, eτ90_38.1, eτ90_38.2, fun a k => (jτ90 a k).1, fun a k => (jτ90 a k).2, pτ90]) <;> first | rfl | omega | grind) (by funext a9; (try simp only [rII, rIJ, rIP, rJJ, rJI, rJP, rPP, rPI, rPJ, g1, g2, g3, g4, g5, g6, g7, g8, Nat.reduceEqDiff, Nat.reduceAdd, false_and, and_false, true_and, and_true, reduceIte, nZ0, nZ1, eτ90_38.1, eτ90_38.2, fun a k => (jτ90 a k).1, fun a k => (jτ90 a k).2, pτ90]) <;> first | rfl | omega | grind) (by funext a9; (try simp only [rII, rIJ, rIP, rJJ, rJI, rJP, rPP, rPI, rPJ, g1, g2, g3, g4, g5, g6, g7, g8, Nat.reduceEqDiff, Nat.reduceAdd, false_and, and_false, true_and, and_true, reduceIte, nZ0, nZ1, eτ90_38.1, eτ90_38.2, fun a k => (jτ90 a k).1, fun a k => (jτ90 a k).2, pτ90]) <;> first | rfl | omega | grind) (by funext a9; (try simp only [rII, rIJ, rIP, rJJ, rJI, rJP, rPP, rPI, rPJ, g1, g2, g3, g4, g5, g6, g7, g8, Nat.reduceEqDiff, Nat.reduceAdd, false_and, and_false, true_and, and_true, reduceIte, nZ0, nZ1, eτ90_38.1, eτ90_38.2, fun a k => (jτ90 a k).1, fun a k => (jτ90 a k).2, pτ90]) <;> first | rfl | omega | grind) (by intros; (try simp only [rII, rIJ, rIP, rJJ, rJI, rJP, rPP, rPI, rPJ, g1, g2, g3, g4, g5, g6, g7, g8, Nat.reduceEqDiff, Nat.reduceAdd, false_and, and_false, true_and, and_true, reduceIte, nZ0, nZ1, eτ90_38.1, eτ90_38.2, fun a k => (jτ90 a k).1, fun a k => (jτ90 a k).2, pτ90]) <;> (repeat' split) <;> first | rfl | omega | grind) (fun _ => by rw [hov]; (try simp only [rII, rIJ, rIP, rJJ, rJI, rJP, rPP, rPI, rPJ, g1, g2, g3, g4, g5, g6, g7, g8, Nat.reduceEqDiff, Nat.reduceAdd, false_and, and_false, true_and, and_true, reduceIte, nZ0, nZ1, eτ90_38.1, eτ90_38.2, fun a k => (jτ90 a k).1, fun a k => (jτ90 a k).2, pτ90, hto]) <;> (have z6 := l6.1 (by assumption); omega))) (ThE.fr (jx := jx) (K := [72, 74]) (S := []) tJ (by repeat (first | exact Fr.rf | assumption | refine Fr.aJ g ?_ (by decide) | refine Fr.aI g ?_ (by decide) | refine Fr.sI g ?_ (by decide) | refine Fr.sJ g ?_ (by decide))) (by decide) (by decide)) h1 hov (by (try simp only [rII, rIJ, rIP, rJJ, rJI, rJP, rPP, rPI, rPJ, g1, g2, g3, g4, g5, g6, g7, g8, Nat.reduceEqDiff, Nat.reduceAdd, false_and, and_false, true_and, and_true, reduceIte, nZ0, nZ1, eτ90_38.1, eτ90_38.2, fun a k => (jτ90 a k).1, fun a k => (jτ90 a k).2, pτ90]) <;> exact e78) (by funext a9; (try simp only [rII, rIJ, rIP, rJJ, rJI, rJP, rPP, rPI, rPJ, g1, g2, g3, g4, g5, g6, g7, g8, Nat.reduceEqDiff, Nat.reduceAdd, false_and, and_false, true_and, and_true, reduceIte, nZ0, nZ1, eτ90_38.1, eτ90_38.2, fun a k => (jτ90 a k).1, fun a k => (jτ90 a k).2, pτ90]) <;> exact congrFun e68 a9) hcA hm90
                  · omega
                · rename_i hc125
                  skip
                  unfold w_X16_matchRow_128
                  try simp only [forall_eq, rII, rIJ, rIP, rJJ, rJI, rJP, rPP, rPI, rPJ, g1, g2, g3, g4, g5, g6, g7, g8, Nat.reduceEqDiff, Nat.reduceAdd, false_and, and_false, true_and, and_true, reduceIte, nZ0, nZ1, eτ90_38.1, eτ90_38.2, fun a k => (jτ90 a k).1, fun a k => (jτ90 a k).2, pτ90]
                  have hl9 : 1 ≤ (gJ τ90 (ra 72) v8.toNat).toInt ∧ (gJ τ90 (ra 72) v8.toNat).toInt < gI σ (jx ja 12) v2.toNat := by have z := hmA v8 (by omega) (by rw [hov]; (try simp only [rII, rIJ, rIP, rJJ, rJI, rJP, rPP, rPI, rPJ, g1, g2, g3, g4, g5, g6, g7, g8, Nat.reduceEqDiff, Nat.reduceAdd, false_and, and_false, true_and, and_true, reduceIte, nZ0, nZ1, eτ90_38.1, eτ90_38.2, fun a k => (jτ90 a k).1, fun a k => (jτ90 a k).2, pτ90, hto]) <;> exact hk8) (by omega); rw [hov] at z; simp only [rII, rIJ, rIP, rJJ, rJI, rJP, rPP, rPI, rPJ, g1, g2, g3, g4, g5, g6, g7, g8, Nat.reduceEqDiff, Nat.reduceAdd, false_and, and_false, true_and, and_true, reduceIte, nZ0, nZ1, eτ90_38.1, eτ90_38.2, fun a k => (jτ90 a k).1, fun a k => (jτ90 a k).2, pτ90, hto] at z; exact z
                  have l1 := hl9.1; have l2 := hl9.2
                  have l3 := i32s (x := gJ τ90 (ra 72) v8.toNat) (by omega) (by omega)
                  refine ⟨ja, by exact hj, hja, ?_⟩
                  refine ⟨by (first | omega | with_reducible assumption | (unfold rng; omega) | (unfold rng; (repeat' split) <;> omega) | grind), ?_⟩
                  refine ⟨by (first | omega | with_reducible assumption | (unfold rng; omega) | (unfold rng; (repeat' split) <;> omega) | grind), ?_⟩
                  refine ⟨by (first | omega | with_reducible assumption | (unfold rng; omega) | (unfold rng; (repeat' split) <;> omega) | grind), ?_⟩
                  refine ⟨by (first | omega | with_reducible assumption | (unfold rng; omega) | (unfold rng; (repeat' split) <;> omega) | grind), ?_⟩
                  have q9 := rσ.2.2.1 ja 13 (((8 * v2) + ((gJ τ90 (ra 72) v8.toNat)).toInt32.toInt).toNat); simp only [rgJ] at q9
                  refine s_X16_worth (b5 := (ra 81)) (n5 := 8) g rτ90 rfl (Or.inl ⟨81, rfl, by decide⟩) (by first | exact hj | (rw [fτ90.2.2.2]; exact hj)) hja (by (try simp only [rII, rIJ, rIP, rJJ, rJI, rJP, rPP, rPI, rPJ, g1, g2, g3, g4, g5, g6, g7, g8, Nat.reduceEqDiff, Nat.reduceAdd, false_and, and_false, true_and, and_true, reduceIte, nZ0, nZ1, eτ90_38.1, eτ90_38.2, fun a k => (jτ90 a k).1, fun a k => (jτ90 a k).2, pτ90]) <;> exact PO.fr (hvs _ (by omega) (by omega)) hja fτ90 (by decide)) (by (try simp only [rII, rIJ, rIP, rJJ, rJI, rJP, rPP, rPI, rPJ, g1, g2, g3, g4, g5, g6, g7, g8, Nat.reduceEqDiff, Nat.reduceAdd, false_and, and_false, true_and, and_true, reduceIte, nZ0, nZ1, eτ90_38.1, eτ90_38.2, fun a k => (jτ90 a k).1, fun a k => (jτ90 a k).2, pτ90]) <;> (first | omega | with_reducible assumption | (unfold rng; omega) | (unfold rng; (repeat' split) <;> omega) | grind)) (by (try simp only [rII, rIJ, rIP, rJJ, rJI, rJP, rPP, rPI, rPJ, g1, g2, g3, g4, g5, g6, g7, g8, Nat.reduceEqDiff, Nat.reduceAdd, false_and, and_false, true_and, and_true, reduceIte, nZ0, nZ1, eτ90_38.1, eτ90_38.2, fun a k => (jτ90 a k).1, fun a k => (jτ90 a k).2, pτ90]) <;> (first | omega | with_reducible assumption | (unfold rng; omega) | (unfold rng; (repeat' split) <;> omega) | grind)) (fun σ49 r50 rσ49 fc p10 => ?_)
                  have fσ49 : Fr ra jx rm [20, 26, 46, 47, 48, 49, 60, 61, 62, 63, 64, 65, 68, 69, 70, 71, 72, 73, 74, 75, 76, 77, 78, 82] [21, 27, 66, 67, 79, 80] σ σ49 := Fr.tr fτ90 (Fr.mor (fc) (by decide) (by decide))
                  have rW := RecI.fr hrA fc (by decide) (by decide)
                  have mW := MtI.fr hmA fc (by decide)
                  have tW := ThE.fr htA fc (by decide) (by decide)
                  have e78 := congrFun (fc.1 78 (by decide)).1 v1.toNat
                  have e68 := (fc.1 68 (by decide)).1
                  have e72 := (fc.1 72 (by decide)).2
                  have eσ49_38 := fσ49.1 38 (by decide)
                  have jσ49 := fσ49.2.2.1
                  have pσ49 := fσ49.2.2.2
                  try simp only [forall_eq, rII, rIJ, rIP, rJJ, rJI, rJP, rPP, rPI, rPJ, g1, g2, g3, g4, g5, g6, g7, g8, Nat.reduceEqDiff, Nat.reduceAdd, false_and, and_false, true_and, and_true, reduceIte, nZ0, nZ1, eσ49_38.1, eσ49_38.2, fun a k => (jσ49 a k).1, fun a k => (jσ49 a k).2, pσ49]
                  split
                  · rename_i hc166
                    skip
                    unfold w_X16_matchRow_302
                    try simp only [forall_eq, rII, rIJ, rIP, rJJ, rJI, rJP, rPP, rPI, rPJ, g1, g2, g3, g4, g5, g6, g7, g8, Nat.reduceEqDiff, Nat.reduceAdd, false_and, and_false, true_and, and_true, reduceIte, nZ0, nZ1, eσ49_38.1, eσ49_38.2, fun a k => (jσ49 a k).1, fun a k => (jσ49 a k).2, pσ49]
                    have q11 := rτ90.1 75 (v8.toNat); simp only [rgT] at q11
                    refine ih90 _ _ ?_ ?_ ?_ ?_
                    · exact rσ49
                    · exact fσ49
                    · first | exact stepDX hrA h1 hov re9 q79 me9 pe9 e68 hcA hm90 | exact stepKX hrA rW mW tW h1 hov e78 e68 hcA hm90 | exact stepKX hrA hrA hmA htA h1 hov rfl rfl hcA hm90 | exact stepKX hrA (RecI.fr (jx := jx) (K := [72, 74]) (S := []) rJ (by repeat (first | exact Fr.rf | assumption | refine Fr.aJ g ?_ (by decide) | refine Fr.aI g ?_ (by decide) | refine Fr.sI g ?_ (by decide) | refine Fr.sJ g ?_ (by decide))) (by decide) (by decide)) (MtI.inc mJ n80 nn9 (by funext a9; (try simp only [rII, rIJ, rIP, rJJ, rJI, rJP, rPP, rPI, rPJ, g1, g2, g3, g4, g5, g6, g7, g8, Nat.reduceEqDiff, Nat.reduceAdd, false_and, and_false, true_and, and_true, reduceIte, nZ0, nZ1, eσ49_38.1, eσ49_38.2, fun a k => (jσ49 a k).1, fun a k => (jσ49 a k).2, pσ49]) <;> first | rfl | omega | grind) (by funext a9; (try simp only [rII, rIJ, rIP, rJJ, rJI, rJP, rPP, rPI, rPJ, g1, g2, g3, g4, g5, g6, g7, g8, Nat.reduceEqDiff, Nat.reduceAdd, false_and, and_false, true_and, and_true, reduceIte, nZ0, nZ1, eσ49_38.1, eσ49_38.2, fun a k => (jσ49 a k).1, fun a k => (jσ49 a k).2, pσ49]) <;> first | rfl | omega | grind) (by funext a9; (try simp only [rII, rIJ, rIP, rJJ, rJI, rJP, rPP, rPI, rPJ, g1, g2, g3, g4, g5, g6, g7, g8, Nat.reduceEqDiff, Nat.reduceAdd, false_and, and_false, true_and, and_true, reduceIte, nZ0, nZ1, eσ49_38.1, eσ49_38.2, fun a k => (jσ49 a k).1, fun a k => (jσ49 a k).2, pσ49]) <;> first | rfl | omega | grind) (by funext a9; (try simp only [rII, rIJ, rIP, rJJ, rJI, rJP, rPP, rPI, rPJ, g1, g2, g3, g4, g5, g6, g7, g8, Nat.reduceEqDiff, Nat.reduceAdd, false_and, and_false, true_and, and_true, reduceIte, nZ0, nZ1, eσ49_38.1, eσ49_38.2, fun a k => (jσ49 a k).1, fun a k => (jσ49 a k).2, pσ49]) <;> first | rfl | omega | grind) (by intros; (try simp only [rII, rIJ, rIP, rJJ, rJI, rJP, rPP, rPI, rPJ, g1, g2, g3, g4, g5, g6, g7, g8, Nat.reduceEqDiff, Nat.reduceAdd, false_and, and_false, true_and, and_true, reduceIte, nZ0, nZ1, eσ49_38.1, eσ49_38.2, fun a k => (jσ49 a k).1, fun a k => (jσ49 a k).2, pσ49]) <;> (repeat' split) <;> first | rfl | omega | grind) (fun _ => by rw [hov]; (try simp only [rII, rIJ, rIP, rJJ, rJI, rJP, rPP, rPI, rPJ, g1, g2, g3, g4, g5, g6, g7, g8, Nat.reduceEqDiff, Nat.reduceAdd, false_and, and_false, true_and, and_true, reduceIte, nZ0, nZ1, eσ49_38.1, eσ49_38.2, fun a k => (jσ49 a k).1, fun a k => (jσ49 a k).2, pσ49, hto]) <;> (have z6 := l6.1 (by assumption); omega))) (ThE.fr (jx := jx) (K := [72, 74]) (S := []) tJ (by repeat (first | exact Fr.rf | assumption | refine Fr.aJ g ?_ (by decide) | refine Fr.aI g ?_ (by decide) | refine Fr.sI g ?_ (by decide) | refine Fr.sJ g ?_ (by decide))) (by decide) (by decide)) h1 hov (by (try simp only [rII, rIJ, rIP, rJJ, rJI, rJP, rPP, rPI, rPJ, g1, g2, g3, g4, g5, g6, g7, g8, Nat.reduceEqDiff, Nat.reduceAdd, false_and, and_false, true_and, and_true, reduceIte, nZ0, nZ1, eσ49_38.1, eσ49_38.2, fun a k => (jσ49 a k).1, fun a k => (jσ49 a k).2, pσ49]) <;> exact e78) (by funext a9; (try simp only [rII, rIJ, rIP, rJJ, rJI, rJP, rPP, rPI, rPJ, g1, g2, g3, g4, g5, g6, g7, g8, Nat.reduceEqDiff, Nat.reduceAdd, false_and, and_false, true_and, and_true, reduceIte, nZ0, nZ1, eσ49_38.1, eσ49_38.2, fun a k => (jσ49 a k).1, fun a k => (jσ49 a k).2, pσ49]) <;> exact congrFun e68 a9) hcA hm90
                    · omega
                  · rename_i hc166
                    skip
                    unfold w_X16_matchRow_169
                    try simp only [forall_eq, rII, rIJ, rIP, rJJ, rJI, rJP, rPP, rPI, rPJ, g1, g2, g3, g4, g5, g6, g7, g8, Nat.reduceEqDiff, Nat.reduceAdd, false_and, and_false, true_and, and_true, reduceIte, nZ0, nZ1, eσ49_38.1, eσ49_38.2, fun a k => (jσ49 a k).1, fun a k => (jσ49 a k).2, pσ49]
                    refine ⟨by (first | omega | with_reducible assumption | (unfold rng; omega) | (unfold rng; (repeat' split) <;> omega) | grind), ?_⟩
                    have q12 := rσ49.1 74 (v8.toNat); simp only [rgT] at q12
                    refine s_X16_joined g rσ49 (by (try simp only [rII, rIJ, rIP, rJJ, rJI, rJP, rPP, rPI, rPJ, g1, g2, g3, g4, g5, g6, g7, g8, Nat.reduceEqDiff, Nat.reduceAdd, false_and, and_false, true_and, and_true, reduceIte, nZ0, nZ1, eσ49_38.1, eσ49_38.2, fun a k => (jσ49 a k).1, fun a k => (jσ49 a k).2, pσ49]) <;> (first | omega | with_reducible assumption | (unfold rng; omega) | (unfold rng; (repeat' split) <;> omega) | grind)) (by (try simp only [rII, rIJ, rIP, rJJ, rJI, rJP, rPP, rPI, rPJ, g1, g2, g3, g4, g5, g6, g7, g8, Nat.reduceEqDiff, Nat.reduceAdd, false_and, and_false, true_and, and_true, reduceIte, nZ0, nZ1, eσ49_38.1, eσ49_38.2, fun a k => (jσ49 a k).1, fun a k => (jσ49 a k).2, pσ49]) <;> (first | omega | with_reducible assumption | (unfold rng; omega) | (unfold rng; (repeat' split) <;> omega) | grind)) (fun σ51 r52 rσ51 fc p13 => ?_) (fun σx E rx fx px => hX _ _ rx (Fr.tr fσ49 (Fr.mor (fx) (by decide) (by decide))) ⟨px, ThE.fr tW fx (by decide) (by decide), own, ps, RecI.fr rW fx (by decide) (by decide), MtI.fr mW fx (by decide)⟩)
                    have fσ51 : Fr ra jx rm [20, 26, 46, 47, 48, 49, 60, 61, 62, 63, 64, 65, 68, 69, 70, 71, 72, 73, 74, 75, 76, 77, 78, 82] [21, 27, 66, 67, 79, 80] σ σ51 := Fr.tr fσ49 (Fr.mor (fc) (by decide) (by decide))
                    have rJ := RecI.fr rW fc (by decide) (by decide)
                    have mJ := MtI.fr mW fc (by decide)
                    have tJ := ThE.fr tW fc (by decide) (by decide)
                    have e78 := (congrFun (fc.1 78 (by decide)).1 v1.toNat).trans e78
                    have e68 := (fc.1 68 (by decide)).1.trans e68
                    have e72 := (fc.1 72 (by decide)).2.trans e72
                    have l4 : (gJ σ51 (ra 72) v8.toNat).toInt = (gJ τ90 (ra 72) v8.toNat).toInt := by rw [e72]
                    have l5 := i64_inc (x := gJ σ51 (ra 72) v8.toNat) (by omega) (by omega)
                    have l6 := i64_neo (x := gJ σ51 (ra 72) v8.toNat + 1) (V := gI σ (jx ja 12) v2.toNat) (by omega) (by omega)
                    have eσ51_38 := fσ51.1 38 (by decide)
                    have jσ51 := fσ51.2.2.1
                    have pσ51 := fσ51.2.2.2
                    try simp only [forall_eq, rII, rIJ, rIP, rJJ, rJI, rJP, rPP, rPI, rPJ, g1, g2, g3, g4, g5, g6, g7, g8, Nat.reduceEqDiff, Nat.reduceAdd, false_and, and_false, true_and, and_true, reduceIte, nZ0, nZ1, eσ51_38.1, eσ51_38.2, fun a k => (jσ51 a k).1, fun a k => (jσ51 a k).2, pσ51]
                    refine ⟨by (first | omega | with_reducible assumption | (unfold rng; omega) | (unfold rng; (repeat' split) <;> omega) | grind), ?_⟩
                    refine ⟨by (first | omega | with_reducible assumption | (unfold rng; omega) | (unfold rng; (repeat' split) <;> omega) | grind), ?_⟩
                    refine ⟨by (first | omega | with_reducible assumption | (unfold rng; omega) | (unfold rng; (repeat' split) <;> omega) | grind), ?_⟩
                    refine ⟨by (first | omega | with_reducible assumption | (unfold rng; omega) | (unfold rng; (repeat' split) <;> omega) | grind), ?_⟩
                    refine ⟨ja, by exact hj, hja, ?_⟩
                    refine ⟨by (first | omega | with_reducible assumption | (unfold rng; omega) | (unfold rng; (repeat' split) <;> omega) | grind), ?_⟩
                    have q14 := rσ.2.2.1 ja 12 (v2.toNat); simp only [rgJ] at q14
                    split
                    · rename_i hc218
                      skip
                      unfold w_X16_matchRow_302
                      try simp only [forall_eq, rII, rIJ, rIP, rJJ, rJI, rJP, rPP, rPI, rPJ, g1, g2, g3, g4, g5, g6, g7, g8, Nat.reduceEqDiff, Nat.reduceAdd, false_and, and_false, true_and, and_true, reduceIte, nZ0, nZ1, eσ51_38.1, eσ51_38.2, fun a k => (jσ51 a k).1, fun a k => (jσ51 a k).2, pσ51]
                      have q15 := rτ90.1 75 (v8.toNat); simp only [rgT] at q15
                      refine ih90 _ _ ?_ ?_ ?_ ?_
                      · refine Rg.aJ g ?_ (by simp only [rlT]; first | with_reducible assumption | omega | exact Int64.toInt_le _ | (rw [Int64.toInt_ofInt_of_le (by omega) (by omega)]; omega) | grind); refine Rg.aI g ?_ (by simp only [rgT]; first | with_reducible exact nZ_rng _ | with_reducible exact nB_rng _ | with_reducible exact wr_rng _ | with_reducible exact i32any _ | (first | omega | with_reducible assumption | (unfold rng; omega) | (unfold rng; (repeat' split) <;> omega) | grind)); exact rσ51
                      · refine Fr.aJ g ?_ (by decide); refine Fr.aI g ?_ (by decide); exact fσ51
                      · first | exact stepDX hrA h1 hov re9 q79 me9 pe9 e68 hcA hm90 | exact stepKX hrA rW mW tW h1 hov e78 e68 hcA hm90 | exact stepKX hrA hrA hmA htA h1 hov rfl rfl hcA hm90 | exact stepKX hrA (RecI.fr (jx := jx) (K := [72, 74]) (S := []) rJ (by repeat (first | exact Fr.rf | assumption | refine Fr.aJ g ?_ (by decide) | refine Fr.aI g ?_ (by decide) | refine Fr.sI g ?_ (by decide) | refine Fr.sJ g ?_ (by decide))) (by decide) (by decide)) (MtI.inc mJ n80 nn9 (by funext a9; (try simp only [rII, rIJ, rIP, rJJ, rJI, rJP, rPP, rPI, rPJ, g1, g2, g3, g4, g5, g6, g7, g8, Nat.reduceEqDiff, Nat.reduceAdd, false_and, and_false, true_and, and_true, reduceIte, nZ0, nZ1, eσ51_38.1, eσ51_38.2, fun a k => (jσ51 a k).1, fun a k => (jσ51 a k).2, pσ51]) <;> first | rfl | omega | grind) (by funext a9; (try simp only [rII, rIJ, rIP, rJJ, rJI, rJP, rPP, rPI, rPJ, g1, g2, g3, g4, g5, g6, g7, g8, Nat.reduceEqDiff, Nat.reduceAdd, false_and, and_false, true_and, and_true, reduceIte, nZ0, nZ1, eσ51_38.1, eσ51_38.2, fun a k => (jσ51 a k).1, fun a k => (jσ51 a k).2, pσ51]) <;> first | rfl | omega | grind) (by funext a9; (try simp only [rII, rIJ, rIP, rJJ, rJI, rJP, rPP, rPI, rPJ, g1, g2, g3, g4, g5, g6, g7, g8, Nat.reduceEqDiff, Nat.reduceAdd, false_and, and_false, true_and, and_true, reduceIte, nZ0, nZ1, eσ51_38.1, eσ51_38.2, fun a k => (jσ51 a k).1, fun a k => (jσ51 a k).2, pσ51]) <;> first | rfl | omega | grind) (by funext a9; (try simp only [rII, rIJ, rIP, rJJ, rJI, rJP, rPP, rPI, rPJ, g1, g2, g3, g4, g5, g6, g7, g8, Nat.reduceEqDiff, Nat.reduceAdd, false_and, and_false, true_and, and_true, reduceIte, nZ0, nZ1, eσ51_38.1, eσ51_38.2, fun a k => (jσ51 a k).1, fun a k => (jσ51 a k).2, pσ51]) <;> first | rfl | omega | grind) (by intros; (try simp only [rII, rIJ, rIP, rJJ, rJI, rJP, rPP, rPI, rPJ, g1, g2, g3, g4, g5, g6, g7, g8, Nat.reduceEqDiff, Nat.reduceAdd, false_and, and_false, true_and, and_true, reduceIte, nZ0, nZ1, eσ51_38.1, eσ51_38.2, fun a k => (jσ51 a k).1, fun a k => (jσ51 a k).2, pσ51]) <;> (repeat' split) <;> first | rfl | omega | grind) (fun _ => by rw [hov]; (try simp only [rII, rIJ, rIP, rJJ, rJI, rJP, rPP, rPI, rPJ, g1, g2, g3, g4, g5, g6, g7, g8, Nat.reduceEqDiff, Nat.reduceAdd, false_and, and_false, true_and, and_true, reduceIte, nZ0, nZ1, eσ51_38.1, eσ51_38.2, fun a k => (jσ51 a k).1, fun a k => (jσ51 a k).2, pσ51, hto]) <;> (have z6 := l6.1 (by assumption); omega))) (ThE.fr (jx := jx) (K := [72, 74]) (S := []) tJ (by repeat (first | exact Fr.rf | assumption | refine Fr.aJ g ?_ (by decide) | refine Fr.aI g ?_ (by decide) | refine Fr.sI g ?_ (by decide) | refine Fr.sJ g ?_ (by decide))) (by decide) (by decide)) h1 hov (by (try simp only [rII, rIJ, rIP, rJJ, rJI, rJP, rPP, rPI, rPJ, g1, g2, g3, g4, g5, g6, g7, g8, Nat.reduceEqDiff, Nat.reduceAdd, false_and, and_false, true_and, and_true, reduceIte, nZ0, nZ1, eσ51_38.1, eσ51_38.2, fun a k => (jσ51 a k).1, fun a k => (jσ51 a k).2, pσ51]) <;> exact e78) (by funext a9; (try simp only [rII, rIJ, rIP, rJJ, rJI, rJP, rPP, rPI, rPJ, g1, g2, g3, g4, g5, g6, g7, g8, Nat.reduceEqDiff, Nat.reduceAdd, false_and, and_false, true_and, and_true, reduceIte, nZ0, nZ1, eσ51_38.1, eσ51_38.2, fun a k => (jσ51 a k).1, fun a k => (jσ51 a k).2, pσ51]) <;> exact congrFun e68 a9) hcA hm90
                      · omega
                    · rename_i hc218
                      skip
                      unfold w_X16_matchRow_221
                      try simp only [forall_eq, rII, rIJ, rIP, rJJ, rJI, rJP, rPP, rPI, rPJ, g1, g2, g3, g4, g5, g6, g7, g8, Nat.reduceEqDiff, Nat.reduceAdd, false_and, and_false, true_and, and_true, reduceIte, nZ0, nZ1, eσ51_38.1, eσ51_38.2, fun a k => (jσ51 a k).1, fun a k => (jσ51 a k).2, pσ51]
                      have q16 := rτ90.1 75 (v8.toNat); simp only [rgT] at q16
                      have L224 : ∀ (fu224 : Nat) (τ224 : Sg) (v10 : Int), Rg ra jx rm τ224 → Fr ra jx rm [20, 26, 46, 47, 48, 49, 60, 61, 62, 63, 64, 65, 68, 69, 70, 71, 72, 73, 74, 75, 76, 77, 78, 82] [21, 27, 66, 67, 79, 80] σ τ224 → (RecI ra rm τ224 own ps ∧ MtI ra jx ja τ224 (up own v8 64) ∧ ThE ra rm τ224 ∧ gI τ224 (ra 78) v1.toNat = gI τ90 (ra 78) v1.toNat ∧ gI τ224 (ra 68) = gI τ90 (ra 68) ∧ 0 ≤ v10 ∧ v10 ≤ 8) → ((8 - v10).toNat) < fu224 → wl_X16_matchRow_224 ra jx rm (wl_X16_matchRow_90 ra jx rm Q X fu90) Q X fu224 τ224 v1 v2 v3 v5 v7 v8 (gI τ90 (ra 75) v8.toNat) v10 := by
                        intro fu224
                        induction fu224 with
                        | zero => intro τ224 _ _ _ _ h9; omega
                        | succ fu224 ih224 =>
                          intro τ224 v10 rτ224 fτ224 hi224 hm224
                          unfold wl_X16_matchRow_224
                          have eτ224_38 := fτ224.1 38 (by decide)
                          have jτ224 := fτ224.2.2.1
                          have pτ224 := fτ224.2.2.2
                          unfold w_X16_matchRow_224
                          try simp only [forall_eq, rII, rIJ, rIP, rJJ, rJI, rJP, rPP, rPI, rPJ, g1, g2, g3, g4, g5, g6, g7, g8, Nat.reduceEqDiff, Nat.reduceAdd, false_and, and_false, true_and, and_true, reduceIte, nZ0, nZ1, eτ224_38.1, eτ224_38.2, fun a k => (jτ224 a k).1, fun a k => (jτ224 a k).2, pτ224]
                          obtain ⟨k1, k2, k3, k4, k5, k6, k7⟩ := hi224
                          split
                          · rename_i hc228
                            skip
                            unfold w_X16_matchRow_245
                            try simp only [forall_eq, rII, rIJ, rIP, rJJ, rJI, rJP, rPP, rPI, rPJ, g1, g2, g3, g4, g5, g6, g7, g8, Nat.reduceEqDiff, Nat.reduceAdd, false_and, and_false, true_and, and_true, reduceIte, nZ0, nZ1, eτ224_38.1, eτ224_38.2, fun a k => (jτ224 a k).1, fun a k => (jτ224 a k).2, pτ224]
                            refine ⟨by (first | omega | with_reducible assumption | (unfold rng; omega) | (unfold rng; (repeat' split) <;> omega) | grind), ?_⟩
                            refine ⟨by (first | omega | with_reducible assumption | (unfold rng; omega) | (unfold rng; (repeat' split) <;> omega) | grind), ?_⟩
                            refine s_X16_drop g (by refine Rg.aJ g ?_ (by simp only [rlT]; first | with_reducible assumption | omega | exact Int64.toInt_le _ | (rw [Int64.toInt_ofInt_of_le (by omega) (by omega)]; omega) | grind); refine Rg.aJ g ?_ (by simp only [rlT]; first | with_reducible assumption | omega | exact Int64.toInt_le _ | (rw [Int64.toInt_ofInt_of_le (by omega) (by omega)]; omega) | grind); refine Rg.aJ g ?_ (by simp only [rlT]; first | with_reducible assumption | omega | exact Int64.toInt_le _ | (rw [Int64.toInt_ofInt_of_le (by omega) (by omega)]; omega) | grind); exact rτ224) (by assumption) h1 hov (fun σ59 _ rσ59 fc p17 => ?_)
                            have fσ59 : Fr ra jx rm [20, 26, 46, 47, 48, 49, 60, 61, 62, 63, 64, 65, 68, 69, 70, 71, 72, 73, 74, 75, 76, 77, 78, 82] [21, 27, 66, 67, 79, 80] σ σ59 := Fr.tr (by refine Fr.aJ g ?_ (by decide); refine Fr.aJ g ?_ (by decide); refine Fr.aJ g ?_ (by decide); exact fτ224) (Fr.mor (fc) (by decide) (by decide))
                            have re9 := p17.1
                            have q79 := p17.2
                            simp only [rII, rIJ, rIP, rJJ, rJI, rJP, rPP, rPI, rPJ, g1, g2, g3, g4, g5, g6, g7, g8, Nat.reduceEqDiff, Nat.reduceAdd, false_and, and_false, true_and, and_true, reduceIte, nZ0, nZ1, eτ224_38.1, eτ224_38.2, fun a k => (jτ224 a k).1, fun a k => (jτ224 a k).2, pτ224] at q79
                            rw [k4] at q79
                            have me9 := MtI.fr (MtI.fr (rm := rm) (K := [82]) (S := []) k2 (by repeat (first | exact Fr.rf | assumption | refine Fr.aJ g ?_ (by decide) | refine Fr.aI g ?_ (by decide) | refine Fr.sI g ?_ (by decide) | refine Fr.sJ g ?_ (by decide))) (by decide)) fc (by decide)
                            have pe9 := ThE.fr (ThE.fr (jx := jx) (K := [82]) (S := []) k3 (by repeat (first | exact Fr.rf | assumption | refine Fr.aJ g ?_ (by decide) | refine Fr.aI g ?_ (by decide) | refine Fr.sI g ?_ (by decide) | refine Fr.sJ g ?_ (by decide))) (by decide) (by decide)) fc (by decide) (by decide)
                            have e68 := (fc.1 68 (by decide)).1
                            simp only [rII, rIJ, rIP, rJJ, rJI, rJP, rPP, rPI, rPJ, g1, g2, g3, g4, g5, g6, g7, g8, Nat.reduceEqDiff, Nat.reduceAdd, false_and, and_false, true_and, and_true, reduceIte, nZ0, nZ1, eτ224_38.1, eτ224_38.2, fun a k => (jτ224 a k).1, fun a k => (jτ224 a k).2, pτ224] at e68
                            rw [k5] at e68
                            have eσ59_38 := fσ59.1 38 (by decide)
                            have jσ59 := fσ59.2.2.1
                            have pσ59 := fσ59.2.2.2
                            try simp only [forall_eq, rII, rIJ, rIP, rJJ, rJI, rJP, rPP, rPI, rPJ, g1, g2, g3, g4, g5, g6, g7, g8, Nat.reduceEqDiff, Nat.reduceAdd, false_and, and_false, true_and, and_true, reduceIte, nZ0, nZ1, eσ59_38.1, eσ59_38.2, fun a k => (jσ59 a k).1, fun a k => (jσ59 a k).2, pσ59]
                            have q18 := rτ224.1 74 (v8.toNat); simp only [rgT] at q18
                            refine s_X16_emit (b4 := (ra 82)) (n4 := 16) g rσ59 (by first | exact hj | (rw [fσ59.2.2.2]; exact hj)) hja rfl (Or.inl ⟨82, rfl, by decide⟩) (by assumption) (by (try simp only [rII, rIJ, rIP, rJJ, rJI, rJP, rPP, rPI, rPJ, g1, g2, g3, g4, g5, g6, g7, g8, Nat.reduceEqDiff, Nat.reduceAdd, false_and, and_false, true_and, and_true, reduceIte, nZ0, nZ1, eσ59_38.1, eσ59_38.2, fun a k => (jσ59 a k).1, fun a k => (jσ59 a k).2, pσ59]) <;> (first | omega | with_reducible assumption | (unfold rng; omega) | (unfold rng; (repeat' split) <;> omega) | grind)) h5 (by (try simp only [rII, rIJ, rIP, rJJ, rJI, rJP, rPP, rPI, rPJ, g1, g2, g3, g4, g5, g6, g7, g8, Nat.reduceEqDiff, Nat.reduceAdd, false_and, and_false, true_and, and_true, reduceIte, nZ0, nZ1, eσ59_38.1, eσ59_38.2, fun a k => (jσ59 a k).1, fun a k => (jσ59 a k).2, pσ59]) <;> (first | omega | with_reducible assumption | (unfold rng; omega) | (unfold rng; (repeat' split) <;> omega) | grind)) (by (try simp only [rII, rIJ, rIP, rJJ, rJI, rJP, rPP, rPI, rPJ, g1, g2, g3, g4, g5, g6, g7, g8, Nat.reduceEqDiff, Nat.reduceAdd, false_and, and_false, true_and, and_true, reduceIte, nZ0, nZ1, eσ59_38.1, eσ59_38.2, fun a k => (jσ59 a k).1, fun a k => (jσ59 a k).2, pσ59]) <;> (first | omega | with_reducible assumption | (unfold rng; omega) | (unfold rng; (repeat' split) <;> omega) | grind)) (by (try simp only [rII, rIJ, rIP, rJJ, rJI, rJP, rPP, rPI, rPJ, g1, g2, g3, g4, g5, g6, g7, g8, Nat.reduceEqDiff, Nat.reduceAdd, false_and, and_false, true_and, and_true, reduceIte, nZ0, nZ1, eσ59_38.1, eσ59_38.2, fun a k => (jσ59 a k).1, fun a k => (jσ59 a k).2, pσ59]) <;> (first | omega | with_reducible assumption | (unfold rng; omega) | (unfold rng; (repeat' split) <;> omega) | grind)) (by (try simp only [rII, rIJ, rIP, rJJ, rJI, rJP, rPP, rPI, rPJ, g1, g2, g3, g4, g5, g6, g7, g8, Nat.reduceEqDiff, Nat.reduceAdd, false_and, and_false, true_and, and_true, reduceIte, nZ0, nZ1, eσ59_38.1, eσ59_38.2, fun a k => (jσ59 a k).1, fun a k => (jσ59 a k).2, pσ59]) <;> first | exact hp | (rw [(fσ59.2.1 33 (by decide)).1]; exact hp)) (fun σ60 _ rσ60 fc p19 => ?_) (fun σx E rx fx px => hX _ _ rx (Fr.tr fσ59 (Fr.mor (fx) (by decide) (by decide))) ⟨px.1, px.2, _, _, RecI.fr re9 fx (by decide) (by decide), MtI.fr me9 fx (by decide)⟩)
                            have fσ60 : Fr ra jx rm [20, 26, 46, 47, 48, 49, 60, 61, 62, 63, 64, 65, 68, 69, 70, 71, 72, 73, 74, 75, 76, 77, 78, 82] [21, 27, 66, 67, 79, 80] σ σ60 := Fr.tr fσ59 (Fr.mor (fc) (by decide) (by decide))
                            have pe9 := p19
                            have re9 := RecI.fr re9 fc (by decide) (by decide)
                            have me9 := MtI.fr me9 fc (by decide)
                            have q79 := (congrFun (fc.1 78 (by decide)).1 v1.toNat).trans q79
                            have e68 := (fc.1 68 (by decide)).1.trans e68
                            have eσ60_38 := fσ60.1 38 (by decide)
                            have jσ60 := fσ60.2.2.1
                            have pσ60 := fσ60.2.2.2
                            try simp only [forall_eq, rII, rIJ, rIP, rJJ, rJI, rJP, rPP, rPI, rPJ, g1, g2, g3, g4, g5, g6, g7, g8, Nat.reduceEqDiff, Nat.reduceAdd, false_and, and_false, true_and, and_true, reduceIte, nZ0, nZ1, eσ60_38.1, eσ60_38.2, fun a k => (jσ60 a k).1, fun a k => (jσ60 a k).2, pσ60]
                            unfold w_X16_matchRow_302
                            try simp only [forall_eq, rII, rIJ, rIP, rJJ, rJI, rJP, rPP, rPI, rPJ, g1, g2, g3, g4, g5, g6, g7, g8, Nat.reduceEqDiff, Nat.reduceAdd, false_and, and_false, true_and, and_true, reduceIte, nZ0, nZ1, eσ60_38.1, eσ60_38.2, fun a k => (jσ60 a k).1, fun a k => (jσ60 a k).2, pσ60]
                            refine ih90 _ _ ?_ ?_ ?_ ?_
                            · exact rσ60
                            · exact fσ60
                            · first | exact stepDX hrA h1 hov re9 q79 me9 pe9 e68 hcA hm90 | exact stepKX hrA rW mW tW h1 hov e78 e68 hcA hm90 | exact stepKX hrA hrA hmA htA h1 hov rfl rfl hcA hm90 | exact stepKX hrA (RecI.fr (jx := jx) (K := [72, 74]) (S := []) rJ (by repeat (first | exact Fr.rf | assumption | refine Fr.aJ g ?_ (by decide) | refine Fr.aI g ?_ (by decide) | refine Fr.sI g ?_ (by decide) | refine Fr.sJ g ?_ (by decide))) (by decide) (by decide)) (MtI.inc mJ n80 nn9 (by funext a9; (try simp only [rII, rIJ, rIP, rJJ, rJI, rJP, rPP, rPI, rPJ, g1, g2, g3, g4, g5, g6, g7, g8, Nat.reduceEqDiff, Nat.reduceAdd, false_and, and_false, true_and, and_true, reduceIte, nZ0, nZ1, eσ60_38.1, eσ60_38.2, fun a k => (jσ60 a k).1, fun a k => (jσ60 a k).2, pσ60]) <;> first | rfl | omega | grind) (by funext a9; (try simp only [rII, rIJ, rIP, rJJ, rJI, rJP, rPP, rPI, rPJ, g1, g2, g3, g4, g5, g6, g7, g8, Nat.reduceEqDiff, Nat.reduceAdd, false_and, and_false, true_and, and_true, reduceIte, nZ0, nZ1, eσ60_38.1, eσ60_38.2, fun a k => (jσ60 a k).1, fun a k => (jσ60 a k).2, pσ60]) <;> first | rfl | omega | grind) (by funext a9; (try simp only [rII, rIJ, rIP, rJJ, rJI, rJP, rPP, rPI, rPJ, g1, g2, g3, g4, g5, g6, g7, g8, Nat.reduceEqDiff, Nat.reduceAdd, false_and, and_false, true_and, and_true, reduceIte, nZ0, nZ1, eσ60_38.1, eσ60_38.2, fun a k => (jσ60 a k).1, fun a k => (jσ60 a k).2, pσ60]) <;> first | rfl | omega | grind) (by funext a9; (try simp only [rII, rIJ, rIP, rJJ, rJI, rJP, rPP, rPI, rPJ, g1, g2, g3, g4, g5, g6, g7, g8, Nat.reduceEqDiff, Nat.reduceAdd, false_and, and_false, true_and, and_true, reduceIte, nZ0, nZ1, eσ60_38.1, eσ60_38.2, fun a k => (jσ60 a k).1, fun a k => (jσ60 a k).2, pσ60]) <;> first | rfl | omega | grind) (by intros; (try simp only [rII, rIJ, rIP, rJJ, rJI, rJP, rPP, rPI, rPJ, g1, g2, g3, g4, g5, g6, g7, g8, Nat.reduceEqDiff, Nat.reduceAdd, false_and, and_false, true_and, and_true, reduceIte, nZ0, nZ1, eσ60_38.1, eσ60_38.2, fun a k => (jσ60 a k).1, fun a k => (jσ60 a k).2, pσ60]) <;> (repeat' split) <;> first | rfl | omega | grind) (fun _ => by rw [hov]; (try simp only [rII, rIJ, rIP, rJJ, rJI, rJP, rPP, rPI, rPJ, g1, g2, g3, g4, g5, g6, g7, g8, Nat.reduceEqDiff, Nat.reduceAdd, false_and, and_false, true_and, and_true, reduceIte, nZ0, nZ1, eσ60_38.1, eσ60_38.2, fun a k => (jσ60 a k).1, fun a k => (jσ60 a k).2, pσ60, hto]) <;> (have z6 := l6.1 (by assumption); omega))) (ThE.fr (jx := jx) (K := [72, 74]) (S := []) tJ (by repeat (first | exact Fr.rf | assumption | refine Fr.aJ g ?_ (by decide) | refine Fr.aI g ?_ (by decide) | refine Fr.sI g ?_ (by decide) | refine Fr.sJ g ?_ (by decide))) (by decide) (by decide)) h1 hov (by (try simp only [rII, rIJ, rIP, rJJ, rJI, rJP, rPP, rPI, rPJ, g1, g2, g3, g4, g5, g6, g7, g8, Nat.reduceEqDiff, Nat.reduceAdd, false_and, and_false, true_and, and_true, reduceIte, nZ0, nZ1, eσ60_38.1, eσ60_38.2, fun a k => (jσ60 a k).1, fun a k => (jσ60 a k).2, pσ60]) <;> exact e78) (by funext a9; (try simp only [rII, rIJ, rIP, rJJ, rJI, rJP, rPP, rPI, rPJ, g1, g2, g3, g4, g5, g6, g7, g8, Nat.reduceEqDiff, Nat.reduceAdd, false_and, and_false, true_and, and_true, reduceIte, nZ0, nZ1, eσ60_38.1, eσ60_38.2, fun a k => (jσ60 a k).1, fun a k => (jσ60 a k).2, pσ60]) <;> exact congrFun e68 a9) hcA hm90
                            · omega
                          · rename_i hc228
                            skip
                            unfold w_X16_matchRow_231
                            try simp only [forall_eq, rII, rIJ, rIP, rJJ, rJI, rJP, rPP, rPI, rPJ, g1, g2, g3, g4, g5, g6, g7, g8, Nat.reduceEqDiff, Nat.reduceAdd, false_and, and_false, true_and, and_true, reduceIte, nZ0, nZ1, eτ224_38.1, eτ224_38.2, fun a k => (jτ224 a k).1, fun a k => (jτ224 a k).2, pτ224]
                            refine ⟨by (first | omega | with_reducible assumption | (unfold rng; omega) | (unfold rng; (repeat' split) <;> omega) | grind), ?_⟩
                            refine ⟨by (first | omega | with_reducible assumption | (unfold rng; omega) | (unfold rng; (repeat' split) <;> omega) | grind), ?_⟩
                            refine ih224 _ _ ?_ ?_ ?_ ?_
                            · refine Rg.aJ g ?_ (by simp only [rlT]; first | with_reducible assumption | omega | exact Int64.toInt_le _ | (rw [Int64.toInt_ofInt_of_le (by omega) (by omega)]; omega) | grind); exact rτ224
                            · refine Fr.aJ g ?_ (by decide); exact fτ224
                            · first | exact ⟨RecI.fr (jx := jx) (K := [82]) (S := []) k1 (by repeat (first | exact Fr.rf | assumption | refine Fr.aJ g ?_ (by decide) | refine Fr.aI g ?_ (by decide) | refine Fr.sI g ?_ (by decide) | refine Fr.sJ g ?_ (by decide))) (by decide) (by decide), MtI.fr (rm := rm) (K := [82]) (S := []) k2 (by repeat (first | exact Fr.rf | assumption | refine Fr.aJ g ?_ (by decide) | refine Fr.aI g ?_ (by decide) | refine Fr.sI g ?_ (by decide) | refine Fr.sJ g ?_ (by decide))) (by decide), ThE.fr (jx := jx) (K := [82]) (S := []) k3 (by repeat (first | exact Fr.rf | assumption | refine Fr.aJ g ?_ (by decide) | refine Fr.aI g ?_ (by decide) | refine Fr.sI g ?_ (by decide) | refine Fr.sJ g ?_ (by decide))) (by decide) (by decide), by (try simp only [rII, rIJ, rIP, rJJ, rJI, rJP, rPP, rPI, rPJ, g1, g2, g3, g4, g5, g6, g7, g8, Nat.reduceEqDiff, Nat.reduceAdd, false_and, and_false, true_and, and_true, reduceIte, nZ0, nZ1, eτ224_38.1, eτ224_38.2, fun a k => (jτ224 a k).1, fun a k => (jτ224 a k).2, pτ224]) <;> exact k4, by (funext a9; (try simp only [rII, rIJ, rIP, rJJ, rJI, rJP, rPP, rPI, rPJ, g1, g2, g3, g4, g5, g6, g7, g8, Nat.reduceEqDiff, Nat.reduceAdd, false_and, and_false, true_and, and_true, reduceIte, nZ0, nZ1, eτ224_38.1, eτ224_38.2, fun a k => (jτ224 a k).1, fun a k => (jτ224 a k).2, pτ224]) <;> exact congrFun k5 a9), by omega, by omega⟩ | exact ⟨RecI.fr (jx := jx) (K := [72, 74]) (S := []) rJ (by repeat (first | exact Fr.rf | assumption | refine Fr.aJ g ?_ (by decide) | refine Fr.aI g ?_ (by decide) | refine Fr.sI g ?_ (by decide) | refine Fr.sJ g ?_ (by decide))) (by decide) (by decide), MtI.inc (MtI.less (r := v8) mJ) n80 (fun a q => nn8 a q) (by funext a9; (try simp only [rII, rIJ, rIP, rJJ, rJI, rJP, rPP, rPI, rPJ, g1, g2, g3, g4, g5, g6, g7, g8, Nat.reduceEqDiff, Nat.reduceAdd, false_and, and_false, true_and, and_true, reduceIte, nZ0, nZ1, eτ224_38.1, eτ224_38.2, fun a k => (jτ224 a k).1, fun a k => (jτ224 a k).2, pτ224]) <;> first | rfl | omega | grind) (by funext a9; (try simp only [rII, rIJ, rIP, rJJ, rJI, rJP, rPP, rPI, rPJ, g1, g2, g3, g4, g5, g6, g7, g8, Nat.reduceEqDiff, Nat.reduceAdd, false_and, and_false, true_and, and_true, reduceIte, nZ0, nZ1, eτ224_38.1, eτ224_38.2, fun a k => (jτ224 a k).1, fun a k => (jτ224 a k).2, pτ224]) <;> first | rfl | omega | grind) (by funext a9; (try simp only [rII, rIJ, rIP, rJJ, rJI, rJP, rPP, rPI, rPJ, g1, g2, g3, g4, g5, g6, g7, g8, Nat.reduceEqDiff, Nat.reduceAdd, false_and, and_false, true_and, and_true, reduceIte, nZ0, nZ1, eτ224_38.1, eτ224_38.2, fun a k => (jτ224 a k).1, fun a k => (jτ224 a k).2, pτ224]) <;> first | rfl | omega | grind) (by funext a9; (try simp only [rII, rIJ, rIP, rJJ, rJI, rJP, rPP, rPI, rPJ, g1, g2, g3, g4, g5, g6, g7, g8, Nat.reduceEqDiff, Nat.reduceAdd, false_and, and_false, true_and, and_true, reduceIte, nZ0, nZ1, eτ224_38.1, eτ224_38.2, fun a k => (jτ224 a k).1, fun a k => (jτ224 a k).2, pτ224]) <;> first | rfl | omega | grind) (by intros; (try simp only [rII, rIJ, rIP, rJJ, rJI, rJP, rPP, rPI, rPJ, g1, g2, g3, g4, g5, g6, g7, g8, Nat.reduceEqDiff, Nat.reduceAdd, false_and, and_false, true_and, and_true, reduceIte, nZ0, nZ1, eτ224_38.1, eτ224_38.2, fun a k => (jτ224 a k).1, fun a k => (jτ224 a k).2, pτ224]) <;> (repeat' split) <;> first | rfl | omega | grind) (fun q => by simp [up] at q), ThE.fr (jx := jx) (K := [72, 74]) (S := []) tJ (by repeat (first | exact Fr.rf | assumption | refine Fr.aJ g ?_ (by decide) | refine Fr.aI g ?_ (by decide) | refine Fr.sI g ?_ (by decide) | refine Fr.sJ g ?_ (by decide))) (by decide) (by decide), by (try simp only [rII, rIJ, rIP, rJJ, rJI, rJP, rPP, rPI, rPJ, g1, g2, g3, g4, g5, g6, g7, g8, Nat.reduceEqDiff, Nat.reduceAdd, false_and, and_false, true_and, and_true, reduceIte, nZ0, nZ1, eτ224_38.1, eτ224_38.2, fun a k => (jτ224 a k).1, fun a k => (jτ224 a k).2, pτ224]) <;> exact e78, by (funext a9; (try simp only [rII, rIJ, rIP, rJJ, rJI, rJP, rPP, rPI, rPJ, g1, g2, g3, g4, g5, g6, g7, g8, Nat.reduceEqDiff, Nat.reduceAdd, false_and, and_false, true_and, and_true, reduceIte, nZ0, nZ1, eτ224_38.1, eτ224_38.2, fun a k => (jτ224 a k).1, fun a k => (jτ224 a k).2, pτ224]) <;> exact congrFun e68 a9), by omega, by omega⟩
                            · (try simp only [rII, rIJ, rIP, rJJ, rJI, rJP, rPP, rPI, rPJ, g1, g2, g3, g4, g5, g6, g7, g8, Nat.reduceEqDiff, Nat.reduceAdd, false_and, and_false, true_and, and_true, reduceIte, nZ0, nZ1, eτ224_38.1, eτ224_38.2, fun a k => (jτ224 a k).1, fun a k => (jτ224 a k).2, pτ224]) <;> (first | omega | with_reducible assumption | (unfold rng; omega) | (unfold rng; (repeat' split) <;> omega) | grind)
                      refine ⟨_, L224 _ _ _ ?_ ?_ ?_ (Nat.lt_succ_self _)⟩
                      · refine Rg.aJ g ?_ (by simp only [rlT]; first | with_reducible assumption | omega | exact Int64.toInt_le _ | (rw [Int64.toInt_ofInt_of_le (by omega) (by omega)]; omega) | grind); refine Rg.aI g ?_ (by simp only [rgT]; first | with_reducible exact nZ_rng _ | with_reducible exact nB_rng _ | with_reducible exact wr_rng _ | with_reducible exact i32any _ | (first | omega | with_reducible assumption | (unfold rng; omega) | (unfold rng; (repeat' split) <;> omega) | grind)); exact rσ51
                      · refine Fr.aJ g ?_ (by decide); refine Fr.aI g ?_ (by decide); exact fσ51
                      · first | exact ⟨RecI.fr (jx := jx) (K := [82]) (S := []) k1 (by repeat (first | exact Fr.rf | assumption | refine Fr.aJ g ?_ (by decide) | refine Fr.aI g ?_ (by decide) | refine Fr.sI g ?_ (by decide) | refine Fr.sJ g ?_ (by decide))) (by decide) (by decide), MtI.fr (rm := rm) (K := [82]) (S := []) k2 (by repeat (first | exact Fr.rf | assumption | refine Fr.aJ g ?_ (by decide) | refine Fr.aI g ?_ (by decide) | refine Fr.sI g ?_ (by decide) | refine Fr.sJ g ?_ (by decide))) (by decide), ThE.fr (jx := jx) (K := [82]) (S := []) k3 (by repeat (first | exact Fr.rf | assumption | refine Fr.aJ g ?_ (by decide) | refine Fr.aI g ?_ (by decide) | refine Fr.sI g ?_ (by decide) | refine Fr.sJ g ?_ (by decide))) (by decide) (by decide), by (try simp only [rII, rIJ, rIP, rJJ, rJI, rJP, rPP, rPI, rPJ, g1, g2, g3, g4, g5, g6, g7, g8, Nat.reduceEqDiff, Nat.reduceAdd, false_and, and_false, true_and, and_true, reduceIte, nZ0, nZ1, eσ51_38.1, eσ51_38.2, fun a k => (jσ51 a k).1, fun a k => (jσ51 a k).2, pσ51]) <;> exact k4, by (funext a9; (try simp only [rII, rIJ, rIP, rJJ, rJI, rJP, rPP, rPI, rPJ, g1, g2, g3, g4, g5, g6, g7, g8, Nat.reduceEqDiff, Nat.reduceAdd, false_and, and_false, true_and, and_true, reduceIte, nZ0, nZ1, eσ51_38.1, eσ51_38.2, fun a k => (jσ51 a k).1, fun a k => (jσ51 a k).2, pσ51]) <;> exact congrFun k5 a9), by omega, by omega⟩ | exact ⟨RecI.fr (jx := jx) (K := [72, 74]) (S := []) rJ (by repeat (first | exact Fr.rf | assumption | refine Fr.aJ g ?_ (by decide) | refine Fr.aI g ?_ (by decide) | refine Fr.sI g ?_ (by decide) | refine Fr.sJ g ?_ (by decide))) (by decide) (by decide), MtI.inc (MtI.less (r := v8) mJ) n80 (fun a q => nn8 a q) (by funext a9; (try simp only [rII, rIJ, rIP, rJJ, rJI, rJP, rPP, rPI, rPJ, g1, g2, g3, g4, g5, g6, g7, g8, Nat.reduceEqDiff, Nat.reduceAdd, false_and, and_false, true_and, and_true, reduceIte, nZ0, nZ1, eσ51_38.1, eσ51_38.2, fun a k => (jσ51 a k).1, fun a k => (jσ51 a k).2, pσ51]) <;> first | rfl | omega | grind) (by funext a9; (try simp only [rII, rIJ, rIP, rJJ, rJI, rJP, rPP, rPI, rPJ, g1, g2, g3, g4, g5, g6, g7, g8, Nat.reduceEqDiff, Nat.reduceAdd, false_and, and_false, true_and, and_true, reduceIte, nZ0, nZ1, eσ51_38.1, eσ51_38.2, fun a k => (jσ51 a k).1, fun a k => (jσ51 a k).2, pσ51]) <;> first | rfl | omega | grind) (by funext a9; (try simp only [rII, rIJ, rIP, rJJ, rJI, rJP, rPP, rPI, rPJ, g1, g2, g3, g4, g5, g6, g7, g8, Nat.reduceEqDiff, Nat.reduceAdd, false_and, and_false, true_and, and_true, reduceIte, nZ0, nZ1, eσ51_38.1, eσ51_38.2, fun a k => (jσ51 a k).1, fun a k => (jσ51 a k).2, pσ51]) <;> first | rfl | omega | grind) (by funext a9; (try simp only [rII, rIJ, rIP, rJJ, rJI, rJP, rPP, rPI, rPJ, g1, g2, g3, g4, g5, g6, g7, g8, Nat.reduceEqDiff, Nat.reduceAdd, false_and, and_false, true_and, and_true, reduceIte, nZ0, nZ1, eσ51_38.1, eσ51_38.2, fun a k => (jσ51 a k).1, fun a k => (jσ51 a k).2, pσ51]) <;> first | rfl | omega | grind) (by intros; (try simp only [rII, rIJ, rIP, rJJ, rJI, rJP, rPP, rPI, rPJ, g1, g2, g3, g4, g5, g6, g7, g8, Nat.reduceEqDiff, Nat.reduceAdd, false_and, and_false, true_and, and_true, reduceIte, nZ0, nZ1, eσ51_38.1, eσ51_38.2, fun a k => (jσ51 a k).1, fun a k => (jσ51 a k).2, pσ51]) <;> (repeat' split) <;> first | rfl | omega | grind) (fun q => by simp [up] at q), ThE.fr (jx := jx) (K := [72, 74]) (S := []) tJ (by repeat (first | exact Fr.rf | assumption | refine Fr.aJ g ?_ (by decide) | refine Fr.aI g ?_ (by decide) | refine Fr.sI g ?_ (by decide) | refine Fr.sJ g ?_ (by decide))) (by decide) (by decide), by (try simp only [rII, rIJ, rIP, rJJ, rJI, rJP, rPP, rPI, rPJ, g1, g2, g3, g4, g5, g6, g7, g8, Nat.reduceEqDiff, Nat.reduceAdd, false_and, and_false, true_and, and_true, reduceIte, nZ0, nZ1, eσ51_38.1, eσ51_38.2, fun a k => (jσ51 a k).1, fun a k => (jσ51 a k).2, pσ51]) <;> exact e78, by (funext a9; (try simp only [rII, rIJ, rIP, rJJ, rJI, rJP, rPP, rPI, rPJ, g1, g2, g3, g4, g5, g6, g7, g8, Nat.reduceEqDiff, Nat.reduceAdd, false_and, and_false, true_and, and_true, reduceIte, nZ0, nZ1, eσ51_38.1, eσ51_38.2, fun a k => (jσ51 a k).1, fun a k => (jσ51 a k).2, pσ51]) <;> exact congrFun e68 a9), by omega, by omega⟩
        refine ⟨(lmm ra τ8 v1 ps (gI τ8 (ra 76) v1.toNat)) + 1, L90 _ _ _ ?_ ?_ ?_ (by omega)⟩
        · exact rτ8
        · exact fτ8
        · exact ⟨own, ps, ⟨⟨⟨⟨hrA, hmA⟩, htA⟩, hrA.hd h1⟩, hcA⟩, Nat.lt_succ_self _⟩
      · rename_i hc11
        skip
        unfold w_X16_matchRow_14
        try simp only [forall_eq, rII, rIJ, rIP, rJJ, rJI, rJP, rPP, rPI, rPJ, g1, g2, g3, g4, g5, g6, g7, g8, Nat.reduceEqDiff, Nat.reduceAdd, false_and, and_false, true_and, and_true, reduceIte, nZ0, nZ1, eτ8_38.1, eτ8_38.2, fun a k => (jτ8 a k).1, fun a k => (jτ8 a k).2, pτ8]
        have hov := hi8.1.2.resolve_left (by assumption)
        have n8 := hrA.nd hov h1
        refine ⟨by (first | omega | with_reducible assumption | (unfold rng; omega) | (unfold rng; (repeat' split) <;> omega) | grind), ?_⟩
        refine ⟨by (first | omega | with_reducible assumption | (unfold rng; omega) | (unfold rng; (repeat' split) <;> omega) | grind), ?_⟩
        have q20 := rτ8.1 68 (v8.toNat); simp only [rgT] at q20
        split
        · rename_i hc31
          skip
          unfold w_X16_matchRow_75
          try simp only [forall_eq, rII, rIJ, rIP, rJJ, rJI, rJP, rPP, rPI, rPJ, g1, g2, g3, g4, g5, g6, g7, g8, Nat.reduceEqDiff, Nat.reduceAdd, false_and, and_false, true_and, and_true, reduceIte, nZ0, nZ1, eτ8_38.1, eτ8_38.2, fun a k => (jτ8 a k).1, fun a k => (jτ8 a k).2, pτ8]
          have q21 := rτ8.1 75 (v8.toNat); simp only [rgT] at q21
          refine ih8 _ _ ?_ ?_ ?_ ?_
          · exact rτ8
          · exact fτ8
          · first | exact stepDX hrA h1 hov pd.1 pd.2 me9 td (fc9.1 68 (by decide)).1 hcA hm8 | exact stepKX hrA hrA hmA htA h1 hov rfl rfl hcA hm8
          · omega
        · rename_i hc31
          skip
          unfold w_X16_matchRow_34
          try simp only [forall_eq, rII, rIJ, rIP, rJJ, rJI, rJP, rPP, rPI, rPJ, g1, g2, g3, g4, g5, g6, g7, g8, Nat.reduceEqDiff, Nat.reduceAdd, false_and, and_false, true_and, and_true, reduceIte, nZ0, nZ1, eτ8_38.1, eτ8_38.2, fun a k => (jτ8 a k).1, fun a k => (jτ8 a k).2, pτ8]
          refine ⟨by (first | omega | with_reducible assumption | (unfold rng; omega) | (unfold rng; (repeat' split) <;> omega) | grind), ?_⟩
          split
          · rename_i hc43
            skip
            unfold w_X16_matchRow_75
            try simp only [forall_eq, rII, rIJ, rIP, rJJ, rJI, rJP, rPP, rPI, rPJ, g1, g2, g3, g4, g5, g6, g7, g8, Nat.reduceEqDiff, Nat.reduceAdd, false_and, and_false, true_and, and_true, reduceIte, nZ0, nZ1, eτ8_38.1, eτ8_38.2, fun a k => (jτ8 a k).1, fun a k => (jτ8 a k).2, pτ8]
            have q22 := rτ8.1 75 (v8.toNat); simp only [rgT] at q22
            refine ih8 _ _ ?_ ?_ ?_ ?_
            · exact rτ8
            · exact fτ8
            · first | exact stepDX hrA h1 hov pd.1 pd.2 me9 td (fc9.1 68 (by decide)).1 hcA hm8 | exact stepKX hrA hrA hmA htA h1 hov rfl rfl hcA hm8
            · omega
          · rename_i hc43
            skip
            unfold w_X16_matchRow_46
            try simp only [forall_eq, rII, rIJ, rIP, rJJ, rJI, rJP, rPP, rPI, rPJ, g1, g2, g3, g4, g5, g6, g7, g8, Nat.reduceEqDiff, Nat.reduceAdd, false_and, and_false, true_and, and_true, reduceIte, nZ0, nZ1, eτ8_38.1, eτ8_38.2, fun a k => (jτ8 a k).1, fun a k => (jτ8 a k).2, pτ8]
            refine ⟨by (first | omega | with_reducible assumption | (unfold rng; omega) | (unfold rng; (repeat' split) <;> omega) | grind), ?_⟩
            refine ⟨ja, by exact hj, hja, ?_⟩
            refine ⟨by (first | omega | with_reducible assumption | (unfold rng; omega) | (unfold rng; (repeat' split) <;> omega) | grind), ?_⟩
            split
            · rename_i hc66
              skip
              unfold w_X16_matchRow_75
              try simp only [forall_eq, rII, rIJ, rIP, rJJ, rJI, rJP, rPP, rPI, rPJ, g1, g2, g3, g4, g5, g6, g7, g8, Nat.reduceEqDiff, Nat.reduceAdd, false_and, and_false, true_and, and_true, reduceIte, nZ0, nZ1, eτ8_38.1, eτ8_38.2, fun a k => (jτ8 a k).1, fun a k => (jτ8 a k).2, pτ8]
              have q23 := rτ8.1 75 (v8.toNat); simp only [rgT] at q23
              refine ih8 _ _ ?_ ?_ ?_ ?_
              · exact rτ8
              · exact fτ8
              · first | exact stepDX hrA h1 hov pd.1 pd.2 me9 td (fc9.1 68 (by decide)).1 hcA hm8 | exact stepKX hrA hrA hmA htA h1 hov rfl rfl hcA hm8
              · omega
            · rename_i hc66
              skip
              unfold w_X16_matchRow_69
              try simp only [forall_eq, rII, rIJ, rIP, rJJ, rJI, rJP, rPP, rPI, rPJ, g1, g2, g3, g4, g5, g6, g7, g8, Nat.reduceEqDiff, Nat.reduceAdd, false_and, and_false, true_and, and_true, reduceIte, nZ0, nZ1, eτ8_38.1, eτ8_38.2, fun a k => (jτ8 a k).1, fun a k => (jτ8 a k).2, pτ8]
              refine s_X16_drop g rτ8 (by assumption) h1 hov (fun σ63 _ rσ63 fc p24 => ?_)
              have fσ63 : Fr ra jx rm [20, 26, 46, 47, 48, 49, 60, 61, 62, 63, 64, 65, 68, 69, 70, 71, 72, 73, 74, 75, 76, 77, 78, 82] [21, 27, 66, 67, 79, 80] σ σ63 := Fr.tr fτ8 (Fr.mor (fc) (by decide) (by decide))
              have p9 := p24
              have fc9 := fc
              have pd := p24
              have re9 := pd.1
              have q78 := pd.2
              have td := ThE.fr (by assumption) fc (by decide) (by decide)
              have pe9 := td
              have me9 := MtI.less (r := v8) (MtI.fr hmA fc (by decide))
              have eσ63_38 := fσ63.1 38 (by decide)
              have jσ63 := fσ63.2.2.1
              have pσ63 := fσ63.2.2.2
              try simp only [forall_eq, rII, rIJ, rIP, rJJ, rJI, rJP, rPP, rPI, rPJ, g1, g2, g3, g4, g5, g6, g7, g8, Nat.reduceEqDiff, Nat.reduceAdd, false_and, and_false, true_and, and_true, reduceIte, nZ0, nZ1, eσ63_38.1, eσ63_38.2, fun a k => (jσ63 a k).1, fun a k => (jσ63 a k).2, pσ63]
              unfold w_X16_matchRow_75
              try simp only [forall_eq, rII, rIJ, rIP, rJJ, rJI, rJP, rPP, rPI, rPJ, g1, g2, g3, g4, g5, g6, g7, g8, Nat.reduceEqDiff, Nat.reduceAdd, false_and, and_false, true_and, and_true, reduceIte, nZ0, nZ1, eσ63_38.1, eσ63_38.2, fun a k => (jσ63 a k).1, fun a k => (jσ63 a k).2, pσ63]
              have q25 := rτ8.1 75 (v8.toNat); simp only [rgT] at q25
              refine ih8 _ _ ?_ ?_ ?_ ?_
              · exact rσ63
              · exact fσ63
              · first | exact stepDX hrA h1 hov pd.1 pd.2 me9 td (fc9.1 68 (by decide)).1 hcA hm8 | exact stepKX hrA hrA hmA htA h1 hov rfl rfl hcA hm8
              · omega
  refine ⟨(lmm ra σ v1 ps0 (gI σ (ra 76) v1.toNat)) + 1, L8 _ _ _ ?_ ?_ ?_ (by omega)⟩
  · exact rσ
  · exact fσ
  · exact ⟨own0, ps0, ⟨⟨⟨⟨hrec, hmt⟩, hth⟩, hrec.hd h1⟩, Int.le_refl _⟩, Nat.lt_succ_self _⟩
set_option maxHeartbeats 8000000 in
theorem s_X16_growMatch {ra : Nat → Nat} {jx : Nat → Nat → Nat} {rm : Nat} {ja : Nat} (g : Geo ra jx rm) {σ : Sg} {v1 : Int} {v2 : Int} {v3 : Int64} (rσ : Rg ra jx rm σ) (hj : gP σ rm 17 = some ja) (hja : ja = ra 15 ∨ ja = ra 16) (hre : RecE ra jx rm ja σ) (hth : ThE ra rm σ) (h1 : 0 ≤ v1 ∧ v1 < 64) (h2 : 0 ≤ v2 ∧ v2 < 16) (h3 : v3.toInt ≤ 4611686018427387904) (hp : 1 ≤ gI σ rm 33) (hf : 0 ≤ gI σ (jx ja 4) v2.toNat) (hto : gI σ (ra 38) v1.toNat = v2) (hk8 : gI σ (jx ja 2) v2.toNat = 8) (hva : 2 ≤ gI σ (jx ja 12) v2.toNat) (hvs : ∀ k, 0 ≤ k → k < gI σ (jx ja 12) v2.toNat → PO jx ja σ (gI σ (jx ja 13) (8 * v2 + k).toNat)) {Q : Sg → Unit → Prop} {X : Sg → String → Prop} (hQ : ∀ (σ' : Sg) (r : Unit), Rg ra jx rm σ' → Fr ra jx rm [20, 26, 46, 47, 48, 49, 60, 61, 62, 63, 64, 65, 68, 69, 70, 71, 72, 73, 74, 75, 76, 77, 78, 81, 82] [21, 27, 66, 67, 79, 80] σ σ' → (RecE ra jx rm ja σ' ∧ ThE ra rm σ') → Q σ' r) (hX : ∀ (σ' : Sg) (E : String), Rg ra jx rm σ' → Fr ra jx rm [20, 26, 46, 47, 48, 49, 60, 61, 62, 63, 64, 65, 68, 69, 70, 71, 72, 73, 74, 75, 76, 77, 78, 81, 82] [21, 27, 66, 67, 79, 80] σ σ' → (E = "StreamHouseModel$Broken" ∧ ThE ra rm σ' ∧ RecE ra jx rm ja σ') → X σ' E) : wp_X16_growMatch ra jx rm v1 v2 v3 σ Q X := by
  obtain ⟨g1, g2, g3, g4, g5, g6, g7, g8⟩ := id g
  have fσ : Fr ra jx rm [20, 26, 46, 47, 48, 49, 60, 61, 62, 63, 64, 65, 68, 69, 70, 71, 72, 73, 74, 75, 76, 77, 78, 81, 82] [21, 27, 66, 67, 79, 80] σ σ := Fr.rf
  obtain ⟨own0, ps0, hr0, hm0⟩ := id hre
  unfold wp_X16_growMatch
  unfold w_X16_growMatch_0
  try simp only [forall_eq, rII, rIJ, rIP, rJJ, rJI, rJP, rPP, rPI, rPJ, g1, g2, g3, g4, g5, g6, g7, g8, Nat.reduceEqDiff, Nat.reduceAdd, false_and, and_false, true_and, and_true, reduceIte, nZ0, nZ1]
  refine ⟨ja, by exact hj, hja, ?_⟩
  refine ⟨ja, by exact hj, hja, ?_⟩
  refine ⟨by (first | omega | with_reducible assumption | (unfold rng; omega) | (unfold rng; (repeat' split) <;> omega) | grind), ?_⟩
  have q1 := rσ.2.2.1 ja 4 (v2.toNat); simp only [rgJ] at q1
  refine ⟨by (first | omega | with_reducible assumption | (unfold rng; omega) | (unfold rng; (repeat' split) <;> omega) | grind), ?_⟩
  have q2 := rσ.2.2.1 ja 6 ((gI σ (jx ja 4) v2.toNat).toNat); simp only [rgJ] at q2
  refine s_X16_leastWaiting g rσ (by assumption) (by (try simp only [rII, rIJ, rIP, rJJ, rJI, rJP, rPP, rPI, rPJ, g1, g2, g3, g4, g5, g6, g7, g8, Nat.reduceEqDiff, Nat.reduceAdd, false_and, and_false, true_and, and_true, reduceIte, nZ0, nZ1]) <;> (first | omega | with_reducible assumption | (unfold rng; omega) | (unfold rng; (repeat' split) <;> omega) | grind)) (by (try simp only [rII, rIJ, rIP, rJJ, rJI, rJP, rPP, rPI, rPJ, g1, g2, g3, g4, g5, g6, g7, g8, Nat.reduceEqDiff, Nat.reduceAdd, false_and, and_false, true_and, and_true, reduceIte, nZ0, nZ1]) <;> (first | omega | with_reducible assumption | (unfold rng; omega) | (unfold rng; (repeat' split) <;> omega) | grind)) (fun r26 p3 => ?_)
  try simp only [forall_eq, rII, rIJ, rIP, rJJ, rJI, rJP, rPP, rPI, rPJ, g1, g2, g3, g4, g5, g6, g7, g8, Nat.reduceEqDiff, Nat.reduceAdd, false_and, and_false, true_and, and_true, reduceIte, nZ0, nZ1]
  have pl9 := p3
  have L29 : ∀ (fu29 : Nat) (τ29 : Sg) (v6 : Int), Rg ra jx rm τ29 → Fr ra jx rm [20, 26, 46, 47, 48, 49, 60, 61, 62, 63, 64, 65, 68, 69, 70, 71, 72, 73, 74, 75, 76, 77, 78, 81, 82] [21, 27, 66, 67, 79, 80] σ τ29 → (∃ own ps, (((RecI ra rm τ29 own ps ∧ MtI ra jx ja τ29 own) ∧ ThE ra rm τ29) ∧ (v6 = -1 ∨ (own v6 = v1 ∧ gI τ29 (ra 68) v6.toNat = 0 ∧ 0 ≤ v6 ∧ v6 < 4000))) ∧ ((cz ra τ29 own v1).toNat) < fu29) → (0) < 1 + 0 * 29 → wl_X16_growMatch_29 ra jx rm Q X fu29 τ29 v1 v2 v3 (gI σ (jx ja 6) (gI σ (jx ja 4) v2.toNat).toNat) v6 := by
    intro fu29
    induction fu29 with
    | zero => intro τ29 _ _ _ h9 _; obtain ⟨_, _, h9⟩ := h9; omega
    | succ fu29 ih29 =>
      intro τ29 v6 rτ29 fτ29 hi29 hm29
      obtain ⟨own, ps, hi29, hm29⟩ := hi29
      unfold wl_X16_growMatch_29
      have eτ29_38 := fτ29.1 38 (by decide)
      have jτ29 := fτ29.2.2.1
      have pτ29 := fτ29.2.2.2
      unfold w_X16_growMatch_29
      try simp only [forall_eq, rII, rIJ, rIP, rJJ, rJI, rJP, rPP, rPI, rPJ, g1, g2, g3, g4, g5, g6, g7, g8, Nat.reduceEqDiff, Nat.reduceAdd, false_and, and_false, true_and, and_true, reduceIte, nZ0, nZ1, eτ29_38.1, eτ29_38.2, fun a k => (jτ29 a k).1, fun a k => (jτ29 a k).2, pτ29]
      have hrA := hi29.1.1.1; have hmA := hi29.1.1.2; have htA := hi29.1.2
      have hhd := hrA.hd h1
      split
      · rename_i hc32
        skip
        unfold w_X16_growMatch_129
        try simp only [forall_eq, rII, rIJ, rIP, rJJ, rJI, rJP, rPP, rPI, rPJ, g1, g2, g3, g4, g5, g6, g7, g8, Nat.reduceEqDiff, Nat.reduceAdd, false_and, and_false, true_and, and_true, reduceIte, nZ0, nZ1, eτ29_38.1, eτ29_38.2, fun a k => (jτ29 a k).1, fun a k => (jτ29 a k).2, pτ29]
        refine ⟨by (first | omega | with_reducible assumption | (unfold rng; omega) | (unfold rng; (repeat' split) <;> omega) | grind), ?_⟩
        have q4 := rτ29.1 76 (v1.toNat); simp only [rgT] at q4
        have L137 : ∀ (fu137 : Nat) (τ137 : Sg) (v6 : Int), Rg ra jx rm τ137 → Fr ra jx rm [20, 26, 46, 47, 48, 49, 60, 61, 62, 63, 64, 65, 68, 69, 70, 71, 72, 73, 74, 75, 76, 77, 78, 81, 82] [21, 27, 66, 67, 79, 80] σ τ137 → (∃ own ps, (((RecI ra rm τ137 own ps ∧ MtI ra jx ja τ137 own) ∧ ThE ra rm τ137) ∧ (v6 = -1 ∨ own v6 = v1)) ∧ (lmm ra τ137 v1 ps v6) < fu137) → (0) < 1 + 0 * 137 → wl_X16_growMatch_137 ra jx rm Q X fu137 τ137 v2 v3 v6 := by
          intro fu137
          induction fu137 with
          | zero => intro τ137 _ _ _ h9 _; obtain ⟨_, _, h9⟩ := h9; omega
          | succ fu137 ih137 =>
            intro τ137 v6 rτ137 fτ137 hi137 hm137
            obtain ⟨own, ps, hi137, hm137⟩ := hi137
            unfold wl_X16_growMatch_137
            have eτ137_38 := fτ137.1 38 (by decide)
            have jτ137 := fτ137.2.2.1
            have pτ137 := fτ137.2.2.2
            unfold w_X16_growMatch_137
            try simp only [forall_eq, rII, rIJ, rIP, rJJ, rJI, rJP, rPP, rPI, rPJ, g1, g2, g3, g4, g5, g6, g7, g8, Nat.reduceEqDiff, Nat.reduceAdd, false_and, and_false, true_and, and_true, reduceIte, nZ0, nZ1, eτ137_38.1, eτ137_38.2, fun a k => (jτ137 a k).1, fun a k => (jτ137 a k).2, pτ137]
            split
            · rename_i hc140
              skip
              unfold w_X16_growMatch_200
              try simp only [forall_eq, rII, rIJ, rIP, rJJ, rJI, rJP, rPP, rPI, rPJ, g1, g2, g3, g4, g5, g6, g7, g8, Nat.reduceEqDiff, Nat.reduceAdd, false_and, and_false, true_and, and_true, reduceIte, nZ0, nZ1, eτ137_38.1, eτ137_38.2, fun a k => (jτ137 a k).1, fun a k => (jτ137 a k).2, pτ137]
              refine hQ _ _ ?_ ?_ ?_
              · exact rτ137
              · exact fτ137
              · exact ⟨⟨_, _, hi137.1.1.1, hi137.1.1.2⟩, hi137.1.2⟩
            · rename_i hc140
              skip
              unfold w_X16_growMatch_143
              try simp only [forall_eq, rII, rIJ, rIP, rJJ, rJI, rJP, rPP, rPI, rPJ, g1, g2, g3, g4, g5, g6, g7, g8, Nat.reduceEqDiff, Nat.reduceAdd, false_and, and_false, true_and, and_true, reduceIte, nZ0, nZ1, eτ137_38.1, eτ137_38.2, fun a k => (jτ137 a k).1, fun a k => (jτ137 a k).2, pτ137]
              have hov := hi137.2.resolve_left (by assumption)
              have nv6 := hi137.1.1.1.nd hov h1
              have hrA := hi137.1.1.1; have hmA := hi137.1.1.2; have htA := hi137.1.2
              refine ⟨by (first | omega | with_reducible assumption | (unfold rng; omega) | (unfold rng; (repeat' split) <;> omega) | grind), ?_⟩
              refine ⟨by (first | omega | with_reducible assumption | (unfold rng; omega) | (unfold rng; (repeat' split) <;> omega) | grind), ?_⟩
              have q5 := rτ137.1 68 (v6.toNat); simp only [rgT] at q5
              split
              · rename_i hc160
                skip
                unfold w_X16_growMatch_193
                try simp only [forall_eq, rII, rIJ, rIP, rJJ, rJI, rJP, rPP, rPI, rPJ, g1, g2, g3, g4, g5, g6, g7, g8, Nat.reduceEqDiff, Nat.reduceAdd, false_and, and_false, true_and, and_true, reduceIte, nZ0, nZ1, eτ137_38.1, eτ137_38.2, fun a k => (jτ137 a k).1, fun a k => (jτ137 a k).2, pτ137]
                have q6 := rτ137.1 75 (v6.toNat); simp only [rgT] at q6
                refine ih137 _ _ ?_ ?_ ?_ ?_
                · exact rτ137
                · exact fτ137
                · first | exact stepDT hi137.1.1.1 hi137.1.1.2 hi137.1.2 h1 hov p9 fc9 hm137 | exact stepKT hi137.1.1.1 hi137.1.1.2 hi137.1.2 h1 hov hm137
                · omega
              · rename_i hc160
                skip
                unfold w_X16_growMatch_163
                try simp only [forall_eq, rII, rIJ, rIP, rJJ, rJI, rJP, rPP, rPI, rPJ, g1, g2, g3, g4, g5, g6, g7, g8, Nat.reduceEqDiff, Nat.reduceAdd, false_and, and_false, true_and, and_true, reduceIte, nZ0, nZ1, eτ137_38.1, eτ137_38.2, fun a k => (jτ137 a k).1, fun a k => (jτ137 a k).2, pτ137]
                refine ⟨by (first | omega | with_reducible assumption | (unfold rng; omega) | (unfold rng; (repeat' split) <;> omega) | grind), ?_⟩
                refine ⟨ja, by exact hj, hja, ?_⟩
                refine ⟨by (first | omega | with_reducible assumption | (unfold rng; omega) | (unfold rng; (repeat' split) <;> omega) | grind), ?_⟩
                split
                · rename_i hc184
                  skip
                  unfold w_X16_growMatch_193
                  try simp only [forall_eq, rII, rIJ, rIP, rJJ, rJI, rJP, rPP, rPI, rPJ, g1, g2, g3, g4, g5, g6, g7, g8, Nat.reduceEqDiff, Nat.reduceAdd, false_and, and_false, true_and, and_true, reduceIte, nZ0, nZ1, eτ137_38.1, eτ137_38.2, fun a k => (jτ137 a k).1, fun a k => (jτ137 a k).2, pτ137]
                  have q7 := rτ137.1 75 (v6.toNat); simp only [rgT] at q7
                  refine ih137 _ _ ?_ ?_ ?_ ?_
                  · exact rτ137
                  · exact fτ137
                  · first | exact stepDT hi137.1.1.1 hi137.1.1.2 hi137.1.2 h1 hov p9 fc9 hm137 | exact stepKT hi137.1.1.1 hi137.1.1.2 hi137.1.2 h1 hov hm137
                  · omega
                · rename_i hc184
                  skip
                  unfold w_X16_growMatch_187
                  try simp only [forall_eq, rII, rIJ, rIP, rJJ, rJI, rJP, rPP, rPI, rPJ, g1, g2, g3, g4, g5, g6, g7, g8, Nat.reduceEqDiff, Nat.reduceAdd, false_and, and_false, true_and, and_true, reduceIte, nZ0, nZ1, eτ137_38.1, eτ137_38.2, fun a k => (jτ137 a k).1, fun a k => (jτ137 a k).2, pτ137]
                  refine s_X16_drop g rτ137 (by assumption) h1 hov (fun σ28 _ rσ28 fc p8 => ?_)
                  have fσ28 : Fr ra jx rm [20, 26, 46, 47, 48, 49, 60, 61, 62, 63, 64, 65, 68, 69, 70, 71, 72, 73, 74, 75, 76, 77, 78, 81, 82] [21, 27, 66, 67, 79, 80] σ σ28 := Fr.tr fτ137 (Fr.mor (fc) (by decide) (by decide))
                  have p9 := p8
                  have fc9 := fc
                  have pd := p8
                  have re9 := pd.1
                  have q78 := pd.2
                  have td := ThE.fr (by assumption) fc (by decide) (by decide)
                  have pe9 := td
                  have md := MtI.less (r := v6) (MtI.fr (by assumption) fc (by decide))
                  have me9 := md
                  have eσ28_38 := fσ28.1 38 (by decide)
                  have jσ28 := fσ28.2.2.1
                  have pσ28 := fσ28.2.2.2
                  try simp only [forall_eq, rII, rIJ, rIP, rJJ, rJI, rJP, rPP, rPI, rPJ, g1, g2, g3, g4, g5, g6, g7, g8, Nat.reduceEqDiff, Nat.reduceAdd, false_and, and_false, true_and, and_true, reduceIte, nZ0, nZ1, eσ28_38.1, eσ28_38.2, fun a k => (jσ28 a k).1, fun a k => (jσ28 a k).2, pσ28]
                  unfold w_X16_growMatch_193
                  try simp only [forall_eq, rII, rIJ, rIP, rJJ, rJI, rJP, rPP, rPI, rPJ, g1, g2, g3, g4, g5, g6, g7, g8, Nat.reduceEqDiff, Nat.reduceAdd, false_and, and_false, true_and, and_true, reduceIte, nZ0, nZ1, eσ28_38.1, eσ28_38.2, fun a k => (jσ28 a k).1, fun a k => (jσ28 a k).2, pσ28]
                  have q9 := rτ137.1 75 (v6.toNat); simp only [rgT] at q9
                  refine ih137 _ _ ?_ ?_ ?_ ?_
                  · exact rσ28
                  · exact fσ28
                  · first | exact stepDT hi137.1.1.1 hi137.1.1.2 hi137.1.2 h1 hov p9 fc9 hm137 | exact stepKT hi137.1.1.1 hi137.1.1.2 hi137.1.2 h1 hov hm137
                  · omega
        refine ⟨(lmm ra τ29 v1 ps (gI τ29 (ra 76) v1.toNat)) + 1, L137 _ _ _ ?_ ?_ ?_ (by omega)⟩
        · exact rτ29
        · exact fτ29
        · exact ⟨own, ps, ⟨⟨⟨hrA, hmA⟩, htA⟩, hrA.hd h1⟩, Nat.lt_succ_self _⟩
      · rename_i hc32
        skip
        unfold w_X16_growMatch_35
        try simp only [forall_eq, rII, rIJ, rIP, rJJ, rJI, rJP, rPP, rPI, rPJ, g1, g2, g3, g4, g5, g6, g7, g8, Nat.reduceEqDiff, Nat.reduceAdd, false_and, and_false, true_and, and_true, reduceIte, nZ0, nZ1, eτ29_38.1, eτ29_38.2, fun a k => (jτ29 a k).1, fun a k => (jτ29 a k).2, pτ29]
        have ho6 := hi29.2.resolve_left (by assumption)
        have n6 := hrA.nd ho6.1 h1
        have hov := ho6.1
        have czp := cz_pos (ra := ra) (σ := τ29) ⟨ho6.2.2.1, ho6.2.2.2⟩ ho6.1 ho6.2.1
        refine ⟨by (first | omega | with_reducible assumption | (unfold rng; omega) | (unfold rng; (repeat' split) <;> omega) | grind), ?_⟩
        refine ⟨by (first | omega | with_reducible assumption | (unfold rng; omega) | (unfold rng; (repeat' split) <;> omega) | grind), ?_⟩
        refine ⟨by (first | omega | with_reducible assumption | (unfold rng; omega) | (unfold rng; (repeat' split) <;> omega) | grind), ?_⟩
        have q10 := rτ29.1 74 (v6.toNat); simp only [rgT] at q10
        have L65 : ∀ (fu65 : Nat) (τ65 : Sg) (v12 : Int), Rg ra jx rm τ65 → Fr ra jx rm [20, 26, 46, 47, 48, 49, 60, 61, 62, 63, 64, 65, 68, 69, 70, 71, 72, 73, 74, 75, 76, 77, 78, 81, 82] [21, 27, 66, 67, 79, 80] σ τ65 → (RecI ra rm τ65 own ps ∧ MtI ra jx ja τ65 own ∧ ThE ra rm τ65 ∧ (∀ a, gI τ65 (ra 68) a = gI τ29 (ra 68) a) ∧ 0 ≤ v12 ∧ v12 ≤ 8) → ((8 - v12).toNat) < fu65 → wl_X16_growMatch_65 ra jx rm (wl_X16_growMatch_29 ra jx rm Q X fu29) Q X fu65 τ65 v1 v2 v3 (gI σ (jx ja 6) (gI σ (jx ja 4) v2.toNat).toNat) v6 (gJ τ29 (ra 70) v6.toNat) (gJ τ29 (ra 71) v6.toNat) (gI τ29 (ra 74) v6.toNat) v12 := by
          intro fu65
          induction fu65 with
          | zero => intro τ65 _ _ _ _ h9; omega
          | succ fu65 ih65 =>
            intro τ65 v12 rτ65 fτ65 hi65 hm65
            unfold wl_X16_growMatch_65
            have eτ65_38 := fτ65.1 38 (by decide)
            have jτ65 := fτ65.2.2.1
            have pτ65 := fτ65.2.2.2
            unfold w_X16_growMatch_65
            try simp only [forall_eq, rII, rIJ, rIP, rJJ, rJI, rJP, rPP, rPI, rPJ, g1, g2, g3, g4, g5, g6, g7, g8, Nat.reduceEqDiff, Nat.reduceAdd, false_and, and_false, true_and, and_true, reduceIte, nZ0, nZ1, eτ65_38.1, eτ65_38.2, fun a k => (jτ65 a k).1, fun a k => (jτ65 a k).2, pτ65]
            obtain ⟨k1, k2, k3, k4, k5, k6⟩ := hi65
            split
            · rename_i hc69
              skip
              unfold w_X16_growMatch_98
              try simp only [forall_eq, rII, rIJ, rIP, rJJ, rJI, rJP, rPP, rPI, rPJ, g1, g2, g3, g4, g5, g6, g7, g8, Nat.reduceEqDiff, Nat.reduceAdd, false_and, and_false, true_and, and_true, reduceIte, nZ0, nZ1, eτ65_38.1, eτ65_38.2, fun a k => (jτ65 a k).1, fun a k => (jτ65 a k).2, pτ65]
              refine s_X16_drop g rτ65 (by assumption) h1 hov (fun σ29 _ rσ29 fc p11 => ?_)
              have fσ29 : Fr ra jx rm [20, 26, 46, 47, 48, 49, 60, 61, 62, 63, 64, 65, 68, 69, 70, 71, 72, 73, 74, 75, 76, 77, 78, 81, 82] [21, 27, 66, 67, 79, 80] σ σ29 := Fr.tr fτ65 (Fr.mor (fc) (by decide) (by decide))
              have p9 := p11
              have fc9 := fc
              have pd := p11
              have re9 := pd.1
              have q78 := pd.2
              have td := ThE.fr (by assumption) fc (by decide) (by decide)
              have pe9 := td
              have md := MtI.less (r := v6) (MtI.fr k2 fc (by decide))
              have me9 := md
              have czd := (cz_drop (σ := τ65) h1 ⟨ho6.2.2.1, ho6.2.2.2⟩ ho6.1 (fc.1 68 (by decide)).1).2 (by rw [k4]; exact ho6.2.1)
              rw [cz_fr (σ := τ29) (funext k4)] at czd
              have eσ29_38 := fσ29.1 38 (by decide)
              have jσ29 := fσ29.2.2.1
              have pσ29 := fσ29.2.2.2
              try simp only [forall_eq, rII, rIJ, rIP, rJJ, rJI, rJP, rPP, rPI, rPJ, g1, g2, g3, g4, g5, g6, g7, g8, Nat.reduceEqDiff, Nat.reduceAdd, false_and, and_false, true_and, and_true, reduceIte, nZ0, nZ1, eσ29_38.1, eσ29_38.2, fun a k => (jσ29 a k).1, fun a k => (jσ29 a k).2, pσ29]
              refine s_X16_matchRow (own0 := up own v6 64) g rσ29 (by first | exact hj | (rw [fσ29.2.2.2]; exact hj)) hja (by assumption) (by assumption) (by assumption) (by (try simp only [rII, rIJ, rIP, rJJ, rJI, rJP, rPP, rPI, rPJ, g1, g2, g3, g4, g5, g6, g7, g8, Nat.reduceEqDiff, Nat.reduceAdd, false_and, and_false, true_and, and_true, reduceIte, nZ0, nZ1, eσ29_38.1, eσ29_38.2, fun a k => (jσ29 a k).1, fun a k => (jσ29 a k).2, pσ29]) <;> (first | omega | with_reducible assumption | (unfold rng; omega) | (unfold rng; (repeat' split) <;> omega) | grind)) (by (try simp only [rII, rIJ, rIP, rJJ, rJI, rJP, rPP, rPI, rPJ, g1, g2, g3, g4, g5, g6, g7, g8, Nat.reduceEqDiff, Nat.reduceAdd, false_and, and_false, true_and, and_true, reduceIte, nZ0, nZ1, eσ29_38.1, eσ29_38.2, fun a k => (jσ29 a k).1, fun a k => (jσ29 a k).2, pσ29]) <;> (first | omega | with_reducible assumption | (unfold rng; omega) | (unfold rng; (repeat' split) <;> omega) | grind)) (by exact rτ29.2.2.2 71 _) (by (try simp only [rII, rIJ, rIP, rJJ, rJI, rJP, rPP, rPI, rPJ, g1, g2, g3, g4, g5, g6, g7, g8, Nat.reduceEqDiff, Nat.reduceAdd, false_and, and_false, true_and, and_true, reduceIte, nZ0, nZ1, eσ29_38.1, eσ29_38.2, fun a k => (jσ29 a k).1, fun a k => (jσ29 a k).2, pσ29]) <;> (first | omega | with_reducible assumption | (unfold rng; omega) | (unfold rng; (repeat' split) <;> omega) | grind)) (by (try simp only [rII, rIJ, rIP, rJJ, rJI, rJP, rPP, rPI, rPJ, g1, g2, g3, g4, g5, g6, g7, g8, Nat.reduceEqDiff, Nat.reduceAdd, false_and, and_false, true_and, and_true, reduceIte, nZ0, nZ1, eσ29_38.1, eσ29_38.2, fun a k => (jσ29 a k).1, fun a k => (jσ29 a k).2, pσ29]) <;> first | exact hp | (rw [(fσ29.2.1 33 (by decide)).1]; exact hp)) (by (try simp only [rII, rIJ, rIP, rJJ, rJI, rJP, rPP, rPI, rPJ, g1, g2, g3, g4, g5, g6, g7, g8, Nat.reduceEqDiff, Nat.reduceAdd, false_and, and_false, true_and, and_true, reduceIte, nZ0, nZ1, eσ29_38.1, eσ29_38.2, fun a k => (jσ29 a k).1, fun a k => (jσ29 a k).2, pσ29]) <;> exact hto) (by (try simp only [rII, rIJ, rIP, rJJ, rJI, rJP, rPP, rPI, rPJ, g1, g2, g3, g4, g5, g6, g7, g8, Nat.reduceEqDiff, Nat.reduceAdd, false_and, and_false, true_and, and_true, reduceIte, nZ0, nZ1, eσ29_38.1, eσ29_38.2, fun a k => (jσ29 a k).1, fun a k => (jσ29 a k).2, pσ29]) <;> exact hk8) (by (try simp only [rII, rIJ, rIP, rJJ, rJI, rJP, rPP, rPI, rPJ, g1, g2, g3, g4, g5, g6, g7, g8, Nat.reduceEqDiff, Nat.reduceAdd, false_and, and_false, true_and, and_true, reduceIte, nZ0, nZ1, eσ29_38.1, eσ29_38.2, fun a k => (jσ29 a k).1, fun a k => (jσ29 a k).2, pσ29]) <;> exact hva) (by (try simp only [rII, rIJ, rIP, rJJ, rJI, rJP, rPP, rPI, rPJ, g1, g2, g3, g4, g5, g6, g7, g8, Nat.reduceEqDiff, Nat.reduceAdd, false_and, and_false, true_and, and_true, reduceIte, nZ0, nZ1, eσ29_38.1, eσ29_38.2, fun a k => (jσ29 a k).1, fun a k => (jσ29 a k).2, pσ29]) <;> exact fun k h0 h9 => PO.fr (hvs k h0 h9) hja fσ29 (by decide)) (fun σ30 _ rσ30 fc p12 => ?_) (fun σx E rx fx px => hX _ _ rx (Fr.tr fσ29 (Fr.mor (fx) (by decide) (by decide))) px)
              have fσ30 : Fr ra jx rm [20, 26, 46, 47, 48, 49, 60, 61, 62, 63, 64, 65, 68, 69, 70, 71, 72, 73, 74, 75, 76, 77, 78, 81, 82] [21, 27, 66, 67, 79, 80] σ σ30 := Fr.tr fσ29 (Fr.mor (fc) (by decide) (by decide))
              obtain ⟨o8, p8, ⟨re9, me9⟩, pe9, cz9⟩ := p12
              have eσ30_38 := fσ30.1 38 (by decide)
              have jσ30 := fσ30.2.2.1
              have pσ30 := fσ30.2.2.2
              try simp only [forall_eq, rII, rIJ, rIP, rJJ, rJI, rJP, rPP, rPI, rPJ, g1, g2, g3, g4, g5, g6, g7, g8, Nat.reduceEqDiff, Nat.reduceAdd, false_and, and_false, true_and, and_true, reduceIte, nZ0, nZ1, eσ30_38.1, eσ30_38.2, fun a k => (jσ30 a k).1, fun a k => (jσ30 a k).2, pσ30]
              refine s_X16_leastWaiting g rσ30 (by assumption) (by (try simp only [rII, rIJ, rIP, rJJ, rJI, rJP, rPP, rPI, rPJ, g1, g2, g3, g4, g5, g6, g7, g8, Nat.reduceEqDiff, Nat.reduceAdd, false_and, and_false, true_and, and_true, reduceIte, nZ0, nZ1, eσ30_38.1, eσ30_38.2, fun a k => (jσ30 a k).1, fun a k => (jσ30 a k).2, pσ30]) <;> (first | omega | with_reducible assumption | (unfold rng; omega) | (unfold rng; (repeat' split) <;> omega) | grind)) (by (try simp only [rII, rIJ, rIP, rJJ, rJI, rJP, rPP, rPI, rPJ, g1, g2, g3, g4, g5, g6, g7, g8, Nat.reduceEqDiff, Nat.reduceAdd, false_and, and_false, true_and, and_true, reduceIte, nZ0, nZ1, eσ30_38.1, eσ30_38.2, fun a k => (jσ30 a k).1, fun a k => (jσ30 a k).2, pσ30]) <;> (first | omega | with_reducible assumption | (unfold rng; omega) | (unfold rng; (repeat' split) <;> omega) | grind)) (fun r32 p13 => ?_)
              try simp only [forall_eq, rII, rIJ, rIP, rJJ, rJI, rJP, rPP, rPI, rPJ, g1, g2, g3, g4, g5, g6, g7, g8, Nat.reduceEqDiff, Nat.reduceAdd, false_and, and_false, true_and, and_true, reduceIte, nZ0, nZ1, eσ30_38.1, eσ30_38.2, fun a k => (jσ30 a k).1, fun a k => (jσ30 a k).2, pσ30]
              have pl9 := p13
              refine ih29 _ _ ?_ ?_ ?_ ?_
              · exact rσ30
              · exact fσ30
              · exact ⟨_, _, ⟨⟨⟨re9, me9⟩, pe9⟩, pl9⟩, by omega⟩
              · omega
            · rename_i hc69
              skip
              unfold w_X16_growMatch_72
              try simp only [forall_eq, rII, rIJ, rIP, rJJ, rJI, rJP, rPP, rPI, rPJ, g1, g2, g3, g4, g5, g6, g7, g8, Nat.reduceEqDiff, Nat.reduceAdd, false_and, and_false, true_and, and_true, reduceIte, nZ0, nZ1, eτ65_38.1, eτ65_38.2, fun a k => (jτ65 a k).1, fun a k => (jτ65 a k).2, pτ65]
              refine ⟨by (first | omega | with_reducible assumption | (unfold rng; omega) | (unfold rng; (repeat' split) <;> omega) | grind), ?_⟩
              refine ⟨by (first | omega | with_reducible assumption | (unfold rng; omega) | (unfold rng; (repeat' split) <;> omega) | grind), ?_⟩
              refine ⟨by (first | omega | with_reducible assumption | (unfold rng; omega) | (unfold rng; (repeat' split) <;> omega) | grind), ?_⟩
              refine ⟨by (first | omega | with_reducible assumption | (unfold rng; omega) | (unfold rng; (repeat' split) <;> omega) | grind), ?_⟩
              refine ⟨by (first | omega | with_reducible assumption | (unfold rng; omega) | (unfold rng; (repeat' split) <;> omega) | grind), ?_⟩
              refine ih65 _ _ ?_ ?_ ?_ ?_
              · refine Rg.aJ g ?_ (by simp only [rlT]; first | with_reducible assumption | omega | exact Int64.toInt_le _ | (rw [Int64.toInt_ofInt_of_le (by omega) (by omega)]; omega) | grind); exact rτ65
              · refine Fr.aJ g ?_ (by decide); exact fτ65
              · refine ⟨?_, ?_, ?_, ?_, ?_, ?_⟩ <;> (first | with_reducible assumption | omega | exact RecI.fr (jx := jx) (K := [81]) (S := []) (by assumption) (by repeat (first | exact Fr.rf | assumption | refine Fr.aJ g ?_ (by decide) | refine Fr.aI g ?_ (by decide) | refine Fr.sI g ?_ (by decide) | refine Fr.sJ g ?_ (by decide))) (by decide) (by decide) | exact MtI.fr (rm := rm) (K := [81]) (S := []) (by assumption) (by repeat (first | exact Fr.rf | assumption | refine Fr.aJ g ?_ (by decide) | refine Fr.aI g ?_ (by decide) | refine Fr.sI g ?_ (by decide) | refine Fr.sJ g ?_ (by decide))) (by decide) | exact ThE.fr (jx := jx) (K := [81]) (S := []) (by assumption) (by repeat (first | exact Fr.rf | assumption | refine Fr.aJ g ?_ (by decide) | refine Fr.aI g ?_ (by decide) | refine Fr.sI g ?_ (by decide) | refine Fr.sJ g ?_ (by decide))) (by decide) (by decide) | exact HeE.fr (jx := jx) (K := [81]) (S := []) (by assumption) (by repeat (first | exact Fr.rf | assumption | refine Fr.aJ g ?_ (by decide) | refine Fr.aI g ?_ (by decide) | refine Fr.sI g ?_ (by decide) | refine Fr.sJ g ?_ (by decide))) (by decide) (by decide) | ((try simp only [rII, rIJ, rIP, rJJ, rJI, rJP, rPP, rPI, rPJ, g1, g2, g3, g4, g5, g6, g7, g8, Nat.reduceEqDiff, Nat.reduceAdd, false_and, and_false, true_and, and_true, reduceIte, nZ0, nZ1, eτ65_38.1, eτ65_38.2, fun a k => (jτ65 a k).1, fun a k => (jτ65 a k).2, pτ65]) <;> first | omega | assumption | grind))
              · (try simp only [rII, rIJ, rIP, rJJ, rJI, rJP, rPP, rPI, rPJ, g1, g2, g3, g4, g5, g6, g7, g8, Nat.reduceEqDiff, Nat.reduceAdd, false_and, and_false, true_and, and_true, reduceIte, nZ0, nZ1, eτ65_38.1, eτ65_38.2, fun a k => (jτ65 a k).1, fun a k => (jτ65 a k).2, pτ65]) <;> (first | omega | with_reducible assumption | (unfold rng; omega) | (unfold rng; (repeat' split) <;> omega) | grind)
        refine ⟨_, L65 _ _ _ ?_ ?_ ?_ (Nat.lt_succ_self _)⟩
        · exact rτ29
        · exact fτ29
        · refine ⟨?_, ?_, ?_, ?_, ?_, ?_⟩ <;> (first | with_reducible assumption | omega | exact RecI.fr (jx := jx) (K := [81]) (S := []) (by assumption) (by repeat (first | exact Fr.rf | assumption | refine Fr.aJ g ?_ (by decide) | refine Fr.aI g ?_ (by decide) | refine Fr.sI g ?_ (by decide) | refine Fr.sJ g ?_ (by decide))) (by decide) (by decide) | exact MtI.fr (rm := rm) (K := [81]) (S := []) (by assumption) (by repeat (first | exact Fr.rf | assumption | refine Fr.aJ g ?_ (by decide) | refine Fr.aI g ?_ (by decide) | refine Fr.sI g ?_ (by decide) | refine Fr.sJ g ?_ (by decide))) (by decide) | exact ThE.fr (jx := jx) (K := [81]) (S := []) (by assumption) (by repeat (first | exact Fr.rf | assumption | refine Fr.aJ g ?_ (by decide) | refine Fr.aI g ?_ (by decide) | refine Fr.sI g ?_ (by decide) | refine Fr.sJ g ?_ (by decide))) (by decide) (by decide) | exact HeE.fr (jx := jx) (K := [81]) (S := []) (by assumption) (by repeat (first | exact Fr.rf | assumption | refine Fr.aJ g ?_ (by decide) | refine Fr.aI g ?_ (by decide) | refine Fr.sI g ?_ (by decide) | refine Fr.sJ g ?_ (by decide))) (by decide) (by decide) | ((try simp only [rII, rIJ, rIP, rJJ, rJI, rJP, rPP, rPI, rPJ, g1, g2, g3, g4, g5, g6, g7, g8, Nat.reduceEqDiff, Nat.reduceAdd, false_and, and_false, true_and, and_true, reduceIte, nZ0, nZ1, eτ29_38.1, eτ29_38.2, fun a k => (jτ29 a k).1, fun a k => (jτ29 a k).2, pτ29]) <;> first | omega | assumption | grind))
  refine ⟨((cz ra σ own0 v1).toNat) + 1, L29 _ _ _ ?_ ?_ ?_ (by omega)⟩
  · exact rσ
  · exact fσ
  · exact ⟨own0, ps0, ⟨⟨⟨hr0, hm0⟩, hth⟩, pl9⟩, Nat.lt_succ_self _⟩
set_option maxHeartbeats 4000000 in
theorem s_X16_grow {ra : Nat → Nat} {jx : Nat → Nat → Nat} {rm : Nat} {ja : Nat} (g : Geo ra jx rm) {σ : Sg} {v1 : Int} {v2 : Int64} (rσ : Rg ra jx rm σ) (hj : gP σ rm 17 = some ja) (hja : ja = ra 15 ∨ ja = ra 16) (hre : RecE ra jx rm ja σ) (hth : ThE ra rm σ) (h1 : 0 ≤ v1 ∧ v1 < 64) (h3 : v2.toInt ≤ 4611686018427387904) (hp : 1 ≤ gI σ rm 33) (hjo : JobOK jx ja σ) (hto : gI σ (ra 38) v1.toNat < gI σ ja 0) {Q : Sg → Unit → Prop} {X : Sg → String → Prop} (hQ : ∀ (σ' : Sg) (r : Unit), Rg ra jx rm σ' → Fr ra jx rm [20, 26, 46, 47, 48, 49, 60, 61, 62, 63, 64, 65, 68, 69, 70, 71, 72, 73, 74, 75, 76, 77, 78, 81, 82] [21, 27, 66, 67, 79, 80] σ σ' → (RecE ra jx rm ja σ' ∧ ThE ra rm σ') → Q σ' r) (hX : ∀ (σ' : Sg) (E : String), Rg ra jx rm σ' → Fr ra jx rm [20, 26, 46, 47, 48, 49, 60, 61, 62, 63, 64, 65, 68, 69, 70, 71, 72, 73, 74, 75, 76, 77, 78, 81, 82] [21, 27, 66, 67, 79, 80] σ σ' → (E = "StreamHouseModel$Broken" ∧ ThE ra rm σ' ∧ RecE ra jx rm ja σ') → X σ' E) : wp_X16_grow ra jx rm v1 v2 σ Q X := by
  obtain ⟨g1, g2, g3, g4, g5, g6, g7, g8⟩ := id g
  have fσ : Fr ra jx rm [20, 26, 46, 47, 48, 49, 60, 61, 62, 63, 64, 65, 68, 69, 70, 71, 72, 73, 74, 75, 76, 77, 78, 81, 82] [21, 27, 66, 67, 79, 80] σ σ := Fr.rf
  have hoo := rσ.1 38 v1.toNat; simp only [rgT] at hoo
  obtain ⟨o1, o2, o3, o4, o5, o6, o7, o8, o9⟩ := hjo.2.2 (gI σ (ra 38) v1.toNat) (by omega) hto
  unfold wp_X16_grow
  unfold w_X16_grow_0
  try simp only [forall_eq, rII, rIJ, rIP, rJJ, rJI, rJP, rPP, rPI, rPJ, g1, g2, g3, g4, g5, g6, g7, g8, Nat.reduceEqDiff, Nat.reduceAdd, false_and, and_false, true_and, and_true, reduceIte, nZ0, nZ1]
  refine ⟨by (first | omega | with_reducible assumption | (unfold rng; omega) | (unfold rng; (repeat' split) <;> omega) | grind), ?_⟩
  refine ⟨ja, by exact hj, hja, ?_⟩
  have q1 := rσ.1 38 (v1.toNat); simp only [rgT] at q1
  refine ⟨by (first | omega | with_reducible assumption | (unfold rng; omega) | (unfold rng; (repeat' split) <;> omega) | grind), ?_⟩
  have q2 := rσ.2.2.1 ja 2 ((gI σ (ra 38) v1.toNat).toNat); simp only [rgJ] at q2
  by_cases hc18_0 : (gI σ (jx ja 2) (gI σ (ra 38) v1.toNat).toNat) = 4
  · rw [if_pos hc18_0]
    unfold w_X16_grow_60
    try simp only [forall_eq, rII, rIJ, rIP, rJJ, rJI, rJP, rPP, rPI, rPJ, g1, g2, g3, g4, g5, g6, g7, g8, Nat.reduceEqDiff, Nat.reduceAdd, false_and, and_false, true_and, and_true, reduceIte, nZ0, nZ1]
    refine s_X16_growSpans g rσ (by first | exact hj | (rw [fσ.2.2.2]; exact hj)) hja (by exact hre) (by exact hth) (by (try simp only [rII, rIJ, rIP, rJJ, rJI, rJP, rPP, rPI, rPJ, g1, g2, g3, g4, g5, g6, g7, g8, Nat.reduceEqDiff, Nat.reduceAdd, false_and, and_false, true_and, and_true, reduceIte, nZ0, nZ1]) <;> (first | omega | with_reducible assumption | (unfold rng; omega) | (unfold rng; (repeat' split) <;> omega) | grind)) (by (try simp only [rII, rIJ, rIP, rJJ, rJI, rJP, rPP, rPI, rPJ, g1, g2, g3, g4, g5, g6, g7, g8, Nat.reduceEqDiff, Nat.reduceAdd, false_and, and_false, true_and, and_true, reduceIte, nZ0, nZ1]) <;> (first | omega | with_reducible assumption | (unfold rng; omega) | (unfold rng; (repeat' split) <;> omega) | grind)) (by exact h3) (by (try simp only [rII, rIJ, rIP, rJJ, rJI, rJP, rPP, rPI, rPJ, g1, g2, g3, g4, g5, g6, g7, g8, Nat.reduceEqDiff, Nat.reduceAdd, false_and, and_false, true_and, and_true, reduceIte, nZ0, nZ1]) <;> first | exact hp | (rw [(fσ.2.1 33 (by decide)).1]; exact hp)) (fun σ18 _ rσ18 fc p3 => ?_) (fun σx E rx fx px => hX _ _ rx (Fr.tr fσ (Fr.mor (fx) (by decide) (by decide))) px)
    have fσ18 : Fr ra jx rm [20, 26, 46, 47, 48, 49, 60, 61, 62, 63, 64, 65, 68, 69, 70, 71, 72, 73, 74, 75, 76, 77, 78, 81, 82] [21, 27, 66, 67, 79, 80] σ σ18 := Fr.tr fσ (Fr.mor (fc) (by decide) (by decide))
    have p9 := p3
    have eσ18_38 := fσ18.1 38 (by decide)
    have jσ18 := fσ18.2.2.1
    have pσ18 := fσ18.2.2.2
    try simp only [forall_eq, rII, rIJ, rIP, rJJ, rJI, rJP, rPP, rPI, rPJ, g1, g2, g3, g4, g5, g6, g7, g8, Nat.reduceEqDiff, Nat.reduceAdd, false_and, and_false, true_and, and_true, reduceIte, nZ0, nZ1, eσ18_38.1, eσ18_38.2, fun a k => (jσ18 a k).1, fun a k => (jσ18 a k).2, pσ18]
    unfold w_X16_grow_137
    try simp only [forall_eq, rII, rIJ, rIP, rJJ, rJI, rJP, rPP, rPI, rPJ, g1, g2, g3, g4, g5, g6, g7, g8, Nat.reduceEqDiff, Nat.reduceAdd, false_and, and_false, true_and, and_true, reduceIte, nZ0, nZ1, eσ18_38.1, eσ18_38.2, fun a k => (jσ18 a k).1, fun a k => (jσ18 a k).2, pσ18]
    refine hQ _ _ ?_ ?_ ?_
    · exact rσ18
    · exact fσ18
    · first | exact p9 | exact ⟨hre, hth⟩
  · rw [if_neg hc18_0]
    by_cases hc18_1 : (gI σ (jx ja 2) (gI σ (ra 38) v1.toNat).toNat) = 5
    · rw [if_pos hc18_1]
      unfold w_X16_grow_71
      try simp only [forall_eq, rII, rIJ, rIP, rJJ, rJI, rJP, rPP, rPI, rPJ, g1, g2, g3, g4, g5, g6, g7, g8, Nat.reduceEqDiff, Nat.reduceAdd, false_and, and_false, true_and, and_true, reduceIte, nZ0, nZ1]
      refine s_X16_growGaps g rσ (by first | exact hj | (rw [fσ.2.2.2]; exact hj)) hja (by exact hre) (by exact hth) (by (try simp only [rII, rIJ, rIP, rJJ, rJI, rJP, rPP, rPI, rPJ, g1, g2, g3, g4, g5, g6, g7, g8, Nat.reduceEqDiff, Nat.reduceAdd, false_and, and_false, true_and, and_true, reduceIte, nZ0, nZ1]) <;> (first | omega | with_reducible assumption | (unfold rng; omega) | (unfold rng; (repeat' split) <;> omega) | grind)) (by (try simp only [rII, rIJ, rIP, rJJ, rJI, rJP, rPP, rPI, rPJ, g1, g2, g3, g4, g5, g6, g7, g8, Nat.reduceEqDiff, Nat.reduceAdd, false_and, and_false, true_and, and_true, reduceIte, nZ0, nZ1]) <;> (first | omega | with_reducible assumption | (unfold rng; omega) | (unfold rng; (repeat' split) <;> omega) | grind)) (by exact h3) (by (try simp only [rII, rIJ, rIP, rJJ, rJI, rJP, rPP, rPI, rPJ, g1, g2, g3, g4, g5, g6, g7, g8, Nat.reduceEqDiff, Nat.reduceAdd, false_and, and_false, true_and, and_true, reduceIte, nZ0, nZ1]) <;> first | exact hp | (rw [(fσ.2.1 33 (by decide)).1]; exact hp)) (fun σ19 _ rσ19 fc p4 => ?_) (fun σx E rx fx px => hX _ _ rx (Fr.tr fσ (Fr.mor (fx) (by decide) (by decide))) px)
      have fσ19 : Fr ra jx rm [20, 26, 46, 47, 48, 49, 60, 61, 62, 63, 64, 65, 68, 69, 70, 71, 72, 73, 74, 75, 76, 77, 78, 81, 82] [21, 27, 66, 67, 79, 80] σ σ19 := Fr.tr fσ (Fr.mor (fc) (by decide) (by decide))
      have p9 := p4
      have eσ19_38 := fσ19.1 38 (by decide)
      have jσ19 := fσ19.2.2.1
      have pσ19 := fσ19.2.2.2
      try simp only [forall_eq, rII, rIJ, rIP, rJJ, rJI, rJP, rPP, rPI, rPJ, g1, g2, g3, g4, g5, g6, g7, g8, Nat.reduceEqDiff, Nat.reduceAdd, false_and, and_false, true_and, and_true, reduceIte, nZ0, nZ1, eσ19_38.1, eσ19_38.2, fun a k => (jσ19 a k).1, fun a k => (jσ19 a k).2, pσ19]
      unfold w_X16_grow_137
      try simp only [forall_eq, rII, rIJ, rIP, rJJ, rJI, rJP, rPP, rPI, rPJ, g1, g2, g3, g4, g5, g6, g7, g8, Nat.reduceEqDiff, Nat.reduceAdd, false_and, and_false, true_and, and_true, reduceIte, nZ0, nZ1, eσ19_38.1, eσ19_38.2, fun a k => (jσ19 a k).1, fun a k => (jσ19 a k).2, pσ19]
      refine hQ _ _ ?_ ?_ ?_
      · exact rσ19
      · exact fσ19
      · first | exact p9 | exact ⟨hre, hth⟩
    · rw [if_neg hc18_1]
      by_cases hc18_2 : (gI σ (jx ja 2) (gI σ (ra 38) v1.toNat).toNat) = 6
      · rw [if_pos hc18_2]
        unfold w_X16_grow_82
        try simp only [forall_eq, rII, rIJ, rIP, rJJ, rJI, rJP, rPP, rPI, rPJ, g1, g2, g3, g4, g5, g6, g7, g8, Nat.reduceEqDiff, Nat.reduceAdd, false_and, and_false, true_and, and_true, reduceIte, nZ0, nZ1]
        refine s_X16_growJoin g rσ (by first | exact hj | (rw [fσ.2.2.2]; exact hj)) hja (by exact hre) (by (try simp only [rII, rIJ, rIP, rJJ, rJI, rJP, rPP, rPI, rPJ, g1, g2, g3, g4, g5, g6, g7, g8, Nat.reduceEqDiff, Nat.reduceAdd, false_and, and_false, true_and, and_true, reduceIte, nZ0, nZ1]) <;> (first | omega | with_reducible assumption | (unfold rng; omega) | (unfold rng; (repeat' split) <;> omega) | grind)) (by (try simp only [rII, rIJ, rIP, rJJ, rJI, rJP, rPP, rPI, rPJ, g1, g2, g3, g4, g5, g6, g7, g8, Nat.reduceEqDiff, Nat.reduceAdd, false_and, and_false, true_and, and_true, reduceIte, nZ0, nZ1]) <;> (first | omega | with_reducible assumption | (unfold rng; omega) | (unfold rng; (repeat' split) <;> omega) | grind)) (fun σ20 _ rσ20 fc p5 => ?_)
        have fσ20 : Fr ra jx rm [20, 26, 46, 47, 48, 49, 60, 61, 62, 63, 64, 65, 68, 69, 70, 71, 72, 73, 74, 75, 76, 77, 78, 81, 82] [21, 27, 66, 67, 79, 80] σ σ20 := Fr.tr fσ (Fr.mor (fc) (by decide) (by decide))
        have p9 := And.intro p5 (ThE.fr hth fc (by decide) (by decide))
        have eσ20_38 := fσ20.1 38 (by decide)
        have jσ20 := fσ20.2.2.1
        have pσ20 := fσ20.2.2.2
        try simp only [forall_eq, rII, rIJ, rIP, rJJ, rJI, rJP, rPP, rPI, rPJ, g1, g2, g3, g4, g5, g6, g7, g8, Nat.reduceEqDiff, Nat.reduceAdd, false_and, and_false, true_and, and_true, reduceIte, nZ0, nZ1, eσ20_38.1, eσ20_38.2, fun a k => (jσ20 a k).1, fun a k => (jσ20 a k).2, pσ20]
        unfold w_X16_grow_137
        try simp only [forall_eq, rII, rIJ, rIP, rJJ, rJI, rJP, rPP, rPI, rPJ, g1, g2, g3, g4, g5, g6, g7, g8, Nat.reduceEqDiff, Nat.reduceAdd, false_and, and_false, true_and, and_true, reduceIte, nZ0, nZ1, eσ20_38.1, eσ20_38.2, fun a k => (jσ20 a k).1, fun a k => (jσ20 a k).2, pσ20]
        refine hQ _ _ ?_ ?_ ?_
        · exact rσ20
        · exact fσ20
        · first | exact p9 | exact ⟨hre, hth⟩
      · rw [if_neg hc18_2]
        by_cases hc18_3 : (gI σ (jx ja 2) (gI σ (ra 38) v1.toNat).toNat) = 7
        · rw [if_pos hc18_3]
          unfold w_X16_grow_93
          try simp only [forall_eq, rII, rIJ, rIP, rJJ, rJI, rJP, rPP, rPI, rPJ, g1, g2, g3, g4, g5, g6, g7, g8, Nat.reduceEqDiff, Nat.reduceAdd, false_and, and_false, true_and, and_true, reduceIte, nZ0, nZ1]
          refine s_X16_growLook g rσ (by first | exact hj | (rw [fσ.2.2.2]; exact hj)) hja (by exact hre) (by exact hth) (by (try simp only [rII, rIJ, rIP, rJJ, rJI, rJP, rPP, rPI, rPJ, g1, g2, g3, g4, g5, g6, g7, g8, Nat.reduceEqDiff, Nat.reduceAdd, false_and, and_false, true_and, and_true, reduceIte, nZ0, nZ1]) <;> (first | omega | with_reducible assumption | (unfold rng; omega) | (unfold rng; (repeat' split) <;> omega) | grind)) (by (try simp only [rII, rIJ, rIP, rJJ, rJI, rJP, rPP, rPI, rPJ, g1, g2, g3, g4, g5, g6, g7, g8, Nat.reduceEqDiff, Nat.reduceAdd, false_and, and_false, true_and, and_true, reduceIte, nZ0, nZ1]) <;> (first | omega | with_reducible assumption | (unfold rng; omega) | (unfold rng; (repeat' split) <;> omega) | grind)) (by exact h3) (by (try simp only [rII, rIJ, rIP, rJJ, rJI, rJP, rPP, rPI, rPJ, g1, g2, g3, g4, g5, g6, g7, g8, Nat.reduceEqDiff, Nat.reduceAdd, false_and, and_false, true_and, and_true, reduceIte, nZ0, nZ1]) <;> first | exact hp | (rw [(fσ.2.1 33 (by decide)).1]; exact hp)) (by exact o1 (by omega)) (by exact o2 (by omega)) (fun σ21 _ rσ21 fc p6 => ?_) (fun σx E rx fx px => hX _ _ rx (Fr.tr fσ (Fr.mor (fx) (by decide) (by decide))) px)
          have fσ21 : Fr ra jx rm [20, 26, 46, 47, 48, 49, 60, 61, 62, 63, 64, 65, 68, 69, 70, 71, 72, 73, 74, 75, 76, 77, 78, 81, 82] [21, 27, 66, 67, 79, 80] σ σ21 := Fr.tr fσ (Fr.mor (fc) (by decide) (by decide))
          have p9 := p6
          have eσ21_38 := fσ21.1 38 (by decide)
          have jσ21 := fσ21.2.2.1
          have pσ21 := fσ21.2.2.2
          try simp only [forall_eq, rII, rIJ, rIP, rJJ, rJI, rJP, rPP, rPI, rPJ, g1, g2, g3, g4, g5, g6, g7, g8, Nat.reduceEqDiff, Nat.reduceAdd, false_and, and_false, true_and, and_true, reduceIte, nZ0, nZ1, eσ21_38.1, eσ21_38.2, fun a k => (jσ21 a k).1, fun a k => (jσ21 a k).2, pσ21]
          unfold w_X16_grow_137
          try simp only [forall_eq, rII, rIJ, rIP, rJJ, rJI, rJP, rPP, rPI, rPJ, g1, g2, g3, g4, g5, g6, g7, g8, Nat.reduceEqDiff, Nat.reduceAdd, false_and, and_false, true_and, and_true, reduceIte, nZ0, nZ1, eσ21_38.1, eσ21_38.2, fun a k => (jσ21 a k).1, fun a k => (jσ21 a k).2, pσ21]
          refine hQ _ _ ?_ ?_ ?_
          · exact rσ21
          · exact fσ21
          · first | exact p9 | exact ⟨hre, hth⟩
        · rw [if_neg hc18_3]
          by_cases hc18_4 : (gI σ (jx ja 2) (gI σ (ra 38) v1.toNat).toNat) = 8
          · rw [if_pos hc18_4]
            unfold w_X16_grow_104
            try simp only [forall_eq, rII, rIJ, rIP, rJJ, rJI, rJP, rPP, rPI, rPJ, g1, g2, g3, g4, g5, g6, g7, g8, Nat.reduceEqDiff, Nat.reduceAdd, false_and, and_false, true_and, and_true, reduceIte, nZ0, nZ1]
            refine s_X16_growMatch g rσ (by first | exact hj | (rw [fσ.2.2.2]; exact hj)) hja (by exact hre) (by exact hth) (by (try simp only [rII, rIJ, rIP, rJJ, rJI, rJP, rPP, rPI, rPJ, g1, g2, g3, g4, g5, g6, g7, g8, Nat.reduceEqDiff, Nat.reduceAdd, false_and, and_false, true_and, and_true, reduceIte, nZ0, nZ1]) <;> (first | omega | with_reducible assumption | (unfold rng; omega) | (unfold rng; (repeat' split) <;> omega) | grind)) (by (try simp only [rII, rIJ, rIP, rJJ, rJI, rJP, rPP, rPI, rPJ, g1, g2, g3, g4, g5, g6, g7, g8, Nat.reduceEqDiff, Nat.reduceAdd, false_and, and_false, true_and, and_true, reduceIte, nZ0, nZ1]) <;> (first | omega | with_reducible assumption | (unfold rng; omega) | (unfold rng; (repeat' split) <;> omega) | grind)) (by exact h3) (by (try simp only [rII, rIJ, rIP, rJJ, rJI, rJP, rPP, rPI, rPJ, g1, g2, g3, g4, g5, g6, g7, g8, Nat.reduceEqDiff, Nat.reduceAdd, false_and, and_false, true_and, and_true, reduceIte, nZ0, nZ1]) <;> first | exact hp | (rw [(fσ.2.1 33 (by decide)).1]; exact hp)) (by exact o1 (by omega)) rfl (by omega) (by exact o5 (by omega)) (by exact (o4 (by omega)).2) (fun σ22 _ rσ22 fc p7 => ?_) (fun σx E rx fx px => hX _ _ rx (Fr.tr fσ (Fr.mor (fx) (by decide) (by decide))) px)
            have fσ22 : Fr ra jx rm [20, 26, 46, 47, 48, 49, 60, 61, 62, 63, 64, 65, 68, 69, 70, 71, 72, 73, 74, 75, 76, 77, 78, 81, 82] [21, 27, 66, 67, 79, 80] σ σ22 := Fr.tr fσ (Fr.mor (fc) (by decide) (by decide))
            have p9 := p7
            have eσ22_38 := fσ22.1 38 (by decide)
            have jσ22 := fσ22.2.2.1
            have pσ22 := fσ22.2.2.2
            try simp only [forall_eq, rII, rIJ, rIP, rJJ, rJI, rJP, rPP, rPI, rPJ, g1, g2, g3, g4, g5, g6, g7, g8, Nat.reduceEqDiff, Nat.reduceAdd, false_and, and_false, true_and, and_true, reduceIte, nZ0, nZ1, eσ22_38.1, eσ22_38.2, fun a k => (jσ22 a k).1, fun a k => (jσ22 a k).2, pσ22]
            unfold w_X16_grow_137
            try simp only [forall_eq, rII, rIJ, rIP, rJJ, rJI, rJP, rPP, rPI, rPJ, g1, g2, g3, g4, g5, g6, g7, g8, Nat.reduceEqDiff, Nat.reduceAdd, false_and, and_false, true_and, and_true, reduceIte, nZ0, nZ1, eσ22_38.1, eσ22_38.2, fun a k => (jσ22 a k).1, fun a k => (jσ22 a k).2, pσ22]
            refine hQ _ _ ?_ ?_ ?_
            · exact rσ22
            · exact fσ22
            · first | exact p9 | exact ⟨hre, hth⟩
          · rw [if_neg hc18_4]
            by_cases hc18_5 : (gI σ (jx ja 2) (gI σ (ra 38) v1.toNat).toNat) = 9
            · rw [if_pos hc18_5]
              unfold w_X16_grow_115
              try simp only [forall_eq, rII, rIJ, rIP, rJJ, rJI, rJP, rPP, rPI, rPJ, g1, g2, g3, g4, g5, g6, g7, g8, Nat.reduceEqDiff, Nat.reduceAdd, false_and, and_false, true_and, and_true, reduceIte, nZ0, nZ1]
              refine s_X16_growUnique g rσ (by first | exact hj | (rw [fσ.2.2.2]; exact hj)) hja (by exact hre) (by exact hth) (by (try simp only [rII, rIJ, rIP, rJJ, rJI, rJP, rPP, rPI, rPJ, g1, g2, g3, g4, g5, g6, g7, g8, Nat.reduceEqDiff, Nat.reduceAdd, false_and, and_false, true_and, and_true, reduceIte, nZ0, nZ1]) <;> (first | omega | with_reducible assumption | (unfold rng; omega) | (unfold rng; (repeat' split) <;> omega) | grind)) (by (try simp only [rII, rIJ, rIP, rJJ, rJI, rJP, rPP, rPI, rPJ, g1, g2, g3, g4, g5, g6, g7, g8, Nat.reduceEqDiff, Nat.reduceAdd, false_and, and_false, true_and, and_true, reduceIte, nZ0, nZ1]) <;> (first | omega | with_reducible assumption | (unfold rng; omega) | (unfold rng; (repeat' split) <;> omega) | grind)) (by exact h3) (by (try simp only [rII, rIJ, rIP, rJJ, rJI, rJP, rPP, rPI, rPJ, g1, g2, g3, g4, g5, g6, g7, g8, Nat.reduceEqDiff, Nat.reduceAdd, false_and, and_false, true_and, and_true, reduceIte, nZ0, nZ1]) <;> first | exact hp | (rw [(fσ.2.1 33 (by decide)).1]; exact hp)) (by exact o1 (by omega)) rfl (by omega) (fun σ23 _ rσ23 fc p8 => ?_) (fun σx E rx fx px => hX _ _ rx (Fr.tr fσ (Fr.mor (fx) (by decide) (by decide))) px)
              have fσ23 : Fr ra jx rm [20, 26, 46, 47, 48, 49, 60, 61, 62, 63, 64, 65, 68, 69, 70, 71, 72, 73, 74, 75, 76, 77, 78, 81, 82] [21, 27, 66, 67, 79, 80] σ σ23 := Fr.tr fσ (Fr.mor (fc) (by decide) (by decide))
              have p9 := p8
              have eσ23_38 := fσ23.1 38 (by decide)
              have jσ23 := fσ23.2.2.1
              have pσ23 := fσ23.2.2.2
              try simp only [forall_eq, rII, rIJ, rIP, rJJ, rJI, rJP, rPP, rPI, rPJ, g1, g2, g3, g4, g5, g6, g7, g8, Nat.reduceEqDiff, Nat.reduceAdd, false_and, and_false, true_and, and_true, reduceIte, nZ0, nZ1, eσ23_38.1, eσ23_38.2, fun a k => (jσ23 a k).1, fun a k => (jσ23 a k).2, pσ23]
              unfold w_X16_grow_137
              try simp only [forall_eq, rII, rIJ, rIP, rJJ, rJI, rJP, rPP, rPI, rPJ, g1, g2, g3, g4, g5, g6, g7, g8, Nat.reduceEqDiff, Nat.reduceAdd, false_and, and_false, true_and, and_true, reduceIte, nZ0, nZ1, eσ23_38.1, eσ23_38.2, fun a k => (jσ23 a k).1, fun a k => (jσ23 a k).2, pσ23]
              refine hQ _ _ ?_ ?_ ?_
              · exact rσ23
              · exact fσ23
              · first | exact p9 | exact ⟨hre, hth⟩
            · rw [if_neg hc18_5]
              by_cases hc18_6 : (gI σ (jx ja 2) (gI σ (ra 38) v1.toNat).toNat) = 10
              · rw [if_pos hc18_6]
                unfold w_X16_grow_126
                try simp only [forall_eq, rII, rIJ, rIP, rJJ, rJI, rJP, rPP, rPI, rPJ, g1, g2, g3, g4, g5, g6, g7, g8, Nat.reduceEqDiff, Nat.reduceAdd, false_and, and_false, true_and, and_true, reduceIte, nZ0, nZ1]
                refine s_X16_growTop g rσ (by first | exact hj | (rw [fσ.2.2.2]; exact hj)) hja (by exact hre) (by exact hth) (by (try simp only [rII, rIJ, rIP, rJJ, rJI, rJP, rPP, rPI, rPJ, g1, g2, g3, g4, g5, g6, g7, g8, Nat.reduceEqDiff, Nat.reduceAdd, false_and, and_false, true_and, and_true, reduceIte, nZ0, nZ1]) <;> (first | omega | with_reducible assumption | (unfold rng; omega) | (unfold rng; (repeat' split) <;> omega) | grind)) (by (try simp only [rII, rIJ, rIP, rJJ, rJI, rJP, rPP, rPI, rPJ, g1, g2, g3, g4, g5, g6, g7, g8, Nat.reduceEqDiff, Nat.reduceAdd, false_and, and_false, true_and, and_true, reduceIte, nZ0, nZ1]) <;> (first | omega | with_reducible assumption | (unfold rng; omega) | (unfold rng; (repeat' split) <;> omega) | grind)) (by exact h3) (by (try simp only [rII, rIJ, rIP, rJJ, rJI, rJP, rPP, rPI, rPJ, g1, g2, g3, g4, g5, g6, g7, g8, Nat.reduceEqDiff, Nat.reduceAdd, false_and, and_false, true_and, and_true, reduceIte, nZ0, nZ1]) <;> first | exact hp | (rw [(fσ.2.1 33 (by decide)).1]; exact hp)) (by exact o1 (by omega)) (by exact (o8 (by omega)).1) (by exact ⟨(o8 (by omega)).2.1, (o8 (by omega)).2.2.1⟩) (by exact (o8 (by omega)).2.2.2) (fun σ24 _ rσ24 fc p9 => ?_) (fun σx E rx fx px => hX _ _ rx (Fr.tr fσ (Fr.mor (fx) (by decide) (by decide))) px)
                have fσ24 : Fr ra jx rm [20, 26, 46, 47, 48, 49, 60, 61, 62, 63, 64, 65, 68, 69, 70, 71, 72, 73, 74, 75, 76, 77, 78, 81, 82] [21, 27, 66, 67, 79, 80] σ σ24 := Fr.tr fσ (Fr.mor (fc) (by decide) (by decide))
                have p9 := p9
                have eσ24_38 := fσ24.1 38 (by decide)
                have jσ24 := fσ24.2.2.1
                have pσ24 := fσ24.2.2.2
                try simp only [forall_eq, rII, rIJ, rIP, rJJ, rJI, rJP, rPP, rPI, rPJ, g1, g2, g3, g4, g5, g6, g7, g8, Nat.reduceEqDiff, Nat.reduceAdd, false_and, and_false, true_and, and_true, reduceIte, nZ0, nZ1, eσ24_38.1, eσ24_38.2, fun a k => (jσ24 a k).1, fun a k => (jσ24 a k).2, pσ24]
                unfold w_X16_grow_137
                try simp only [forall_eq, rII, rIJ, rIP, rJJ, rJI, rJP, rPP, rPI, rPJ, g1, g2, g3, g4, g5, g6, g7, g8, Nat.reduceEqDiff, Nat.reduceAdd, false_and, and_false, true_and, and_true, reduceIte, nZ0, nZ1, eσ24_38.1, eσ24_38.2, fun a k => (jσ24 a k).1, fun a k => (jσ24 a k).2, pσ24]
                refine hQ _ _ ?_ ?_ ?_
                · exact rσ24
                · exact fσ24
                · first | exact p9 | exact ⟨hre, hth⟩
              · rw [if_neg hc18_6]
                unfold w_X16_grow_137
                try simp only [forall_eq, rII, rIJ, rIP, rJJ, rJI, rJP, rPP, rPI, rPJ, g1, g2, g3, g4, g5, g6, g7, g8, Nat.reduceEqDiff, Nat.reduceAdd, false_and, and_false, true_and, and_true, reduceIte, nZ0, nZ1]
                refine hQ _ _ ?_ ?_ ?_
                · exact rσ
                · exact fσ
                · first | exact p9 | exact ⟨hre, hth⟩
set_option maxHeartbeats 8000000 in
theorem s_X16_show {ra : Nat → Nat} {jx : Nat → Nat → Nat} {rm : Nat} {ja : Nat} (g : Geo ra jx rm) {σ : Sg} {v1 : Int} (rσ : Rg ra jx rm σ) (hj : gP σ rm 17 = some ja) (hja : ja = ra 15 ∨ ja = ra 16) (hhe : HeE ra rm σ) (hco : cO jx ja σ (gI σ ja 0) = gI σ ja 1 ∧ gI σ ja 1 ≤ 4 ∧ 1 ≤ gI σ ja 0 ∧ gI σ ja 0 ≤ 16) (h1 : 0 ≤ v1 ∧ v1 < gI σ ja 1) {Q : Sg → Unit → Prop} {X : Sg → String → Prop} (hQ : ∀ (σ' : Sg) (r : Unit), Rg ra jx rm σ' → Fr ra jx rm [86, 87, 88, 89] [] σ σ' → (HeE ra rm σ') → Q σ' r) : wp_X16_show ra jx rm v1 σ Q X := by
  obtain ⟨g1, g2, g3, g4, g5, g6, g7, g8⟩ := id g
  have fσ : Fr ra jx rm [86, 87, 88, 89] [] σ σ := Fr.rf
  obtain ⟨own0, ps0, mn0, la0, hG0, hA0⟩ := id hhe
  have hT : 0 ≤ (3 * v1 + 1) ∧ (3 * v1 + 1) < 12 := by omega
  have hV : 0 ≤ 3 * v1 + 2 ∧ 3 * v1 + 2 < 12 := by omega
  unfold wp_X16_show
  unfold w_X16_show_0
  try simp only [forall_eq, rII, rIJ, rIP, rJJ, rJI, rJP, rPP, rPI, rPJ, g1, g2, g3, g4, g5, g6, g7, g8, Nat.reduceEqDiff, Nat.reduceAdd, false_and, and_false, true_and, and_true, reduceIte, nZ0, nZ1]
  refine ⟨ja, by exact hj, hja, ?_⟩
  refine s_X16_operatorOfOutput g rσ (by first | exact hj | (rw [fσ.2.2.2]; exact hj)) hja (by (try simp only [rII, rIJ, rIP, rJJ, rJI, rJP, rPP, rPI, rPJ, g1, g2, g3, g4, g5, g6, g7, g8, Nat.reduceEqDiff, Nat.reduceAdd, false_and, and_false, true_and, and_true, reduceIte, nZ0, nZ1]) <;> (first | omega | with_reducible assumption | (unfold rng; omega) | (unfold rng; (repeat' split) <;> omega) | grind)) (by exact hco) (fun r23 p1 => ?_)
  try simp only [forall_eq, rII, rIJ, rIP, rJJ, rJI, rJP, rPP, rPI, rPJ, g1, g2, g3, g4, g5, g6, g7, g8, Nat.reduceEqDiff, Nat.reduceAdd, false_and, and_false, true_and, and_true, reduceIte, nZ0, nZ1]
  refine ⟨by (first | omega | with_reducible assumption | (unfold rng; omega) | (unfold rng; (repeat' split) <;> omega) | grind), ?_⟩
  refine ⟨by (first | omega | with_reducible assumption | (unfold rng; omega) | (unfold rng; (repeat' split) <;> omega) | grind), ?_⟩
  refine ⟨by (first | omega | with_reducible assumption | (unfold rng; omega) | (unfold rng; (repeat' split) <;> omega) | grind), ?_⟩
  have q2 := rσ.2.2.1 ja 6 (r23.toNat); simp only [rgJ] at q2
  have L20 : ∀ (fu20 : Nat) (τ20 : Sg), Rg ra jx rm τ20 → Fr ra jx rm [86, 87, 88, 89] [] σ τ20 → (∃ own ps mn la, (HeG ra rm τ20 own ps mn la 0 ∧ HeA ra τ20 mn la (3 * v1 + 1)) ∧ ((mn (3 * v1 + 1)).toNat) < fu20) → (0) < 1 + 0 * 20 → wl_X16_show_20 ra jx rm Q X fu20 τ20 v1 (gI σ (jx ja 6) r23.toNat) ((3 * v1) + 1) := by
    intro fu20
    induction fu20 with
    | zero => intro τ20 _ _ h9 _; obtain ⟨_, _, _, _, h9⟩ := h9; omega
    | succ fu20 ih20 =>
      intro τ20 rτ20 fτ20 hi20 hm20
      obtain ⟨own, ps, mn, la, hi20, hm20⟩ := hi20
      unfold wl_X16_show_20
      have eτ20_83 := fτ20.1 83 (by decide)
      have jτ20 := fτ20.2.2.1
      have pτ20 := fτ20.2.2.2
      unfold w_X16_show_20
      try simp only [forall_eq, rII, rIJ, rIP, rJJ, rJI, rJP, rPP, rPI, rPJ, g1, g2, g3, g4, g5, g6, g7, g8, Nat.reduceEqDiff, Nat.reduceAdd, false_and, and_false, true_and, and_true, reduceIte, nZ0, nZ1, eτ20_83.1, eτ20_83.2, fun a k => (jτ20 a k).1, fun a k => (jτ20 a k).2, pτ20]
      have hls := hi20.1.ls hT
      have hA2 := hi20.2 (3 * v1 + 2) hV (by omega)
      have hbd := hi20.1.bd
      have hbd1 := hbd.1
      clear hbd
      refine ⟨by (first | omega | with_reducible assumption | (unfold rng; omega) | (unfold rng; (repeat' split) <;> omega) | grind), ?_⟩
      have q3 := rτ20.1 87 (((3 * v1) + 1).toNat); simp only [rgT] at q3
      split
      · rename_i hc27
        skip
        unfold w_X16_show_178
        try simp only [forall_eq, rII, rIJ, rIP, rJJ, rJI, rJP, rPP, rPI, rPJ, g1, g2, g3, g4, g5, g6, g7, g8, Nat.reduceEqDiff, Nat.reduceAdd, false_and, and_false, true_and, and_true, reduceIte, nZ0, nZ1, eτ20_83.1, eτ20_83.2, fun a k => (jτ20 a k).1, fun a k => (jτ20 a k).2, pτ20]
        refine ⟨by (first | omega | with_reducible assumption | (unfold rng; omega) | (unfold rng; (repeat' split) <;> omega) | grind), ?_⟩
        refine ⟨by (first | omega | with_reducible assumption | (unfold rng; omega) | (unfold rng; (repeat' split) <;> omega) | grind), ?_⟩
        refine hQ _ _ ?_ ?_ ?_
        · refine Rg.aI g ?_ (by simp only [rgT]; first | with_reducible exact nZ_rng _ | with_reducible exact nB_rng _ | with_reducible exact wr_rng _ | with_reducible exact i32any _ | (first | omega | with_reducible assumption | (unfold rng; omega) | (unfold rng; (repeat' split) <;> omega) | grind)); refine Rg.aI g ?_ (by simp only [rgT]; first | with_reducible exact nZ_rng _ | with_reducible exact nB_rng _ | with_reducible exact wr_rng _ | with_reducible exact i32any _ | (first | omega | with_reducible assumption | (unfold rng; omega) | (unfold rng; (repeat' split) <;> omega) | grind)); exact rτ20
        · refine Fr.aI g ?_ (by decide); refine Fr.aI g ?_ (by decide); exact fτ20
        · refine HeG.fin hi20 hT (by assumption) ?_ ?_ ?_ ?_ ?_ ?_ <;> (intros; (try simp only [rII, rIJ, rIP, rJJ, rJI, rJP, rPP, rPI, rPJ, g1, g2, g3, g4, g5, g6, g7, g8, Nat.reduceEqDiff, Nat.reduceAdd, false_and, and_false, true_and, and_true, reduceIte, nZ0, nZ1, eτ20_83.1, eτ20_83.2, fun a k => (jτ20 a k).1, fun a k => (jτ20 a k).2, pτ20]) <;> (repeat' split) <;> first | omega | assumption | grind)
      · rename_i hc27
        skip
        unfold w_X16_show_30
        try simp only [forall_eq, rII, rIJ, rIP, rJJ, rJI, rJP, rPP, rPI, rPJ, g1, g2, g3, g4, g5, g6, g7, g8, Nat.reduceEqDiff, Nat.reduceAdd, false_and, and_false, true_and, and_true, reduceIte, nZ0, nZ1, eτ20_83.1, eτ20_83.2, fun a k => (jτ20 a k).1, fun a k => (jτ20 a k).2, pτ20]
        have hne : ¬ gI τ20 (ra 87) (3 * v1 + 1).toNat = -1 := by assumption
        have hfo : own (gI τ20 (ra 87) (3 * v1 + 1).toNat) = (3 * v1 + 1) := by omega
        have nf := hi20.1.nd hfo hT
        have nf1 := nf.1; have nf2 := nf.2.1; have nf3 := nf.2.2.1; have nf4 := nf.2.2.2
        refine ⟨by (first | omega | with_reducible assumption | (unfold rng; omega) | (unfold rng; (repeat' split) <;> omega) | grind), ?_⟩
        refine ⟨by (first | omega | with_reducible assumption | (unfold rng; omega) | (unfold rng; (repeat' split) <;> omega) | grind), ?_⟩
        refine ⟨by (first | omega | with_reducible assumption | (unfold rng; omega) | (unfold rng; (repeat' split) <;> omega) | grind), ?_⟩
        have q4 := rτ20.1 86 ((gI τ20 (ra 87) ((3 * v1) + 1).toNat).toNat); simp only [rgT] at q4
        have L58 : ∀ (fu58 : Nat) (v4 : Int) (v5 : Int) (v6 : Int) (v7 : Int), (own v4 = (3 * v1 + 1) ∧ (0 ≤ v4 ∧ v4 < 2000) ∧ (v5 = -1 → ps v4 = 0) ∧ (v5 ≠ -1 → own v5 = (3 * v1 + 1) ∧ ps v5 + 1 = ps v4 ∧ 0 ≤ v5 ∧ v5 < 2000) ∧ own v6 = (3 * v1 + 1) ∧ (0 ≤ v6 ∧ v6 < 2000) ∧ (v7 = -1 ∨ (own v7 = (3 * v1 + 1) ∧ ps v7 = ps v6 + 1))) → ((if v7 < 0 then 0 else mn (3 * v1 + 1) - ps v7).toNat) < fu58 → wl_X16_show_58 ra jx rm (wl_X16_show_20 ra jx rm Q X fu20) Q X fu58 τ20 v1 (gI σ (jx ja 6) r23.toNat) ((3 * v1) + 1) v4 v5 v6 v7 := by
          intro fu58
          induction fu58 with
          | zero => intro  _ _ _ _ _ h9; omega
          | succ fu58 ih58 =>
            intro v4 v5 v6 v7 hi58 hm58
            unfold wl_X16_show_58
            unfold w_X16_show_58
            try simp only [forall_eq, rII, rIJ, rIP, rJJ, rJI, rJP, rPP, rPI, rPJ, g1, g2, g3, g4, g5, g6, g7, g8, Nat.reduceEqDiff, Nat.reduceAdd, false_and, and_false, true_and, and_true, reduceIte, nZ0, nZ1, eτ20_83.1, eτ20_83.2, fun a k => (jτ20 a k).1, fun a k => (jτ20 a k).2, pτ20]
            split
            · rename_i hc61
              skip
              unfold w_X16_show_128
              try simp only [forall_eq, rII, rIJ, rIP, rJJ, rJI, rJP, rPP, rPI, rPJ, g1, g2, g3, g4, g5, g6, g7, g8, Nat.reduceEqDiff, Nat.reduceAdd, false_and, and_false, true_and, and_true, reduceIte, nZ0, nZ1, eτ20_83.1, eτ20_83.2, fun a k => (jτ20 a k).1, fun a k => (jτ20 a k).2, pτ20]
              have j1 := hi58.1; have j2 := hi58.2.1; have j3 := hi58.2.2.1; have j4 := hi58.2.2.2.1
              split
              · rename_i hc131
                skip
                unfold w_X16_show_150
                try simp only [forall_eq, rII, rIJ, rIP, rJJ, rJI, rJP, rPP, rPI, rPJ, g1, g2, g3, g4, g5, g6, g7, g8, Nat.reduceEqDiff, Nat.reduceAdd, false_and, and_false, true_and, and_true, reduceIte, nZ0, nZ1, eτ20_83.1, eτ20_83.2, fun a k => (jτ20 a k).1, fun a k => (jτ20 a k).2, pτ20]
                refine ⟨by (first | omega | with_reducible assumption | (unfold rng; omega) | (unfold rng; (repeat' split) <;> omega) | grind), ?_⟩
                refine ⟨by (first | omega | with_reducible assumption | (unfold rng; omega) | (unfold rng; (repeat' split) <;> omega) | grind), ?_⟩
                have q5 := rτ20.1 86 (v4.toNat); simp only [rgT] at q5
                unfold w_X16_show_164
                try simp only [forall_eq, rII, rIJ, rIP, rJJ, rJI, rJP, rPP, rPI, rPJ, g1, g2, g3, g4, g5, g6, g7, g8, Nat.reduceEqDiff, Nat.reduceAdd, false_and, and_false, true_and, and_true, reduceIte, nZ0, nZ1, eτ20_83.1, eτ20_83.2, fun a k => (jτ20 a k).1, fun a k => (jτ20 a k).2, pτ20]
                refine ⟨by (first | omega | with_reducible assumption | (unfold rng; omega) | (unfold rng; (repeat' split) <;> omega) | grind), ?_⟩
                refine ⟨by (first | omega | with_reducible assumption | (unfold rng; omega) | (unfold rng; (repeat' split) <;> omega) | grind), ?_⟩
                refine s_X16_hang g (by refine Rg.aI g ?_ (by simp only [rgT]; first | with_reducible exact nZ_rng _ | with_reducible exact nB_rng _ | with_reducible exact wr_rng _ | with_reducible exact i32any _ | (first | omega | with_reducible assumption | (unfold rng; omega) | (unfold rng; (repeat' split) <;> omega) | grind)); exact rτ20) (hi20.1.cut (r := v4) (p := v5) hT j1 j3 (fun q => ⟨(j4 q).1, (j4 q).2.1⟩) (by intros; (try simp only [rII, rIJ, rIP, rJJ, rJI, rJP, rPP, rPI, rPJ, g1, g2, g3, g4, g5, g6, g7, g8, Nat.reduceEqDiff, Nat.reduceAdd, false_and, and_false, true_and, and_true, reduceIte, nZ0, nZ1, eτ20_83.1, eτ20_83.2, fun a k => (jτ20 a k).1, fun a k => (jτ20 a k).2, pτ20]) <;> (repeat' split) <;> first | omega | grind) (by intros; (try simp only [rII, rIJ, rIP, rJJ, rJI, rJP, rPP, rPI, rPJ, g1, g2, g3, g4, g5, g6, g7, g8, Nat.reduceEqDiff, Nat.reduceAdd, false_and, and_false, true_and, and_true, reduceIte, nZ0, nZ1, eτ20_83.1, eτ20_83.2, fun a k => (jτ20 a k).1, fun a k => (jτ20 a k).2, pτ20]) <;> (repeat' split) <;> first | omega | grind) (by simp only [rII, rIJ, rIP, rJJ, rJI, rJP, rPP, rPI, rPJ, g1, g2, g3, g4, g5, g6, g7, g8, Nat.reduceEqDiff, Nat.reduceAdd, false_and, and_false, true_and, and_true, reduceIte, nZ0, nZ1, eτ20_83.1, eτ20_83.2, fun a k => (jτ20 a k).1, fun a k => (jτ20 a k).2, pτ20]) (by simp only [rII, rIJ, rIP, rJJ, rJI, rJP, rPP, rPI, rPJ, g1, g2, g3, g4, g5, g6, g7, g8, Nat.reduceEqDiff, Nat.reduceAdd, false_and, and_false, true_and, and_true, reduceIte, nZ0, nZ1, eτ20_83.1, eτ20_83.2, fun a k => (jτ20 a k).1, fun a k => (jτ20 a k).2, pτ20])) (by (try simp only [rII, rIJ, rIP, rJJ, rJI, rJP, rPP, rPI, rPJ, g1, g2, g3, g4, g5, g6, g7, g8, Nat.reduceEqDiff, Nat.reduceAdd, false_and, and_false, true_and, and_true, reduceIte, nZ0, nZ1, eτ20_83.1, eτ20_83.2, fun a k => (jτ20 a k).1, fun a k => (jτ20 a k).2, pτ20]) <;> (first | omega | with_reducible assumption | (unfold rng; omega) | (unfold rng; (repeat' split) <;> omega) | grind)) (by simp [up]) (by simp only [rII, rIJ, rIP, rJJ, rJI, rJP, rPP, rPI, rPJ, g1, g2, g3, g4, g5, g6, g7, g8, Nat.reduceEqDiff, Nat.reduceAdd, false_and, and_false, true_and, and_true, reduceIte, nZ0, nZ1, eτ20_83.1, eτ20_83.2, fun a k => (jτ20 a k).1, fun a k => (jτ20 a k).2, pτ20]; rw [if_neg (by omega)]; exact hA2.2) (by simp only [rII, rIJ, rIP, rJJ, rJI, rJP, rPP, rPI, rPJ, g1, g2, g3, g4, g5, g6, g7, g8, Nat.reduceEqDiff, Nat.reduceAdd, false_and, and_false, true_and, and_true, reduceIte, nZ0, nZ1, eτ20_83.1, eτ20_83.2, fun a k => (jτ20 a k).1, fun a k => (jτ20 a k).2, pτ20, up]; rw [if_neg (by omega)]; exact hA2.1) (by omega) (fun σ27 _ rσ27 fc p6 => ?_)
                have fσ27 : Fr ra jx rm [86, 87, 88, 89] [] σ σ27 := Fr.tr (by refine Fr.aI g ?_ (by decide); exact fτ20) (Fr.mor (fc) (by decide) (by decide))
                have p9 := p6
                simp only [rII, rIJ, rIP, rJJ, rJI, rJP, rPP, rPI, rPJ, g1, g2, g3, g4, g5, g6, g7, g8, Nat.reduceEqDiff, Nat.reduceAdd, false_and, and_false, true_and, and_true, reduceIte, nZ0, nZ1, eτ20_83.1, eτ20_83.2, fun a k => (jτ20 a k).1, fun a k => (jτ20 a k).2, pτ20] at p9
                have eσ27_83 := fσ27.1 83 (by decide)
                have jσ27 := fσ27.2.2.1
                have pσ27 := fσ27.2.2.2
                try simp only [forall_eq, rII, rIJ, rIP, rJJ, rJI, rJP, rPP, rPI, rPJ, g1, g2, g3, g4, g5, g6, g7, g8, Nat.reduceEqDiff, Nat.reduceAdd, false_and, and_false, true_and, and_true, reduceIte, nZ0, nZ1, eσ27_83.1, eσ27_83.2, fun a k => (jσ27 a k).1, fun a k => (jσ27 a k).2, pσ27]
                refine ih20 _ ?_ ?_ ?_ ?_
                · exact rσ27
                · exact fσ27
                · exact HeG.pass2 p9 (by omega) hi20 hm20 hT hV (by omega) hne
                · omega
              · rename_i hc131
                skip
                unfold w_X16_show_134
                try simp only [forall_eq, rII, rIJ, rIP, rJJ, rJI, rJP, rPP, rPI, rPJ, g1, g2, g3, g4, g5, g6, g7, g8, Nat.reduceEqDiff, Nat.reduceAdd, false_and, and_false, true_and, and_true, reduceIte, nZ0, nZ1, eτ20_83.1, eτ20_83.2, fun a k => (jτ20 a k).1, fun a k => (jτ20 a k).2, pτ20]
                refine ⟨by (first | omega | with_reducible assumption | (unfold rng; omega) | (unfold rng; (repeat' split) <;> omega) | grind), ?_⟩
                refine ⟨by (first | omega | with_reducible assumption | (unfold rng; omega) | (unfold rng; (repeat' split) <;> omega) | grind), ?_⟩
                have q7 := rτ20.1 86 (v4.toNat); simp only [rgT] at q7
                unfold w_X16_show_164
                try simp only [forall_eq, rII, rIJ, rIP, rJJ, rJI, rJP, rPP, rPI, rPJ, g1, g2, g3, g4, g5, g6, g7, g8, Nat.reduceEqDiff, Nat.reduceAdd, false_and, and_false, true_and, and_true, reduceIte, nZ0, nZ1, eτ20_83.1, eτ20_83.2, fun a k => (jτ20 a k).1, fun a k => (jτ20 a k).2, pτ20]
                refine ⟨by (first | omega | with_reducible assumption | (unfold rng; omega) | (unfold rng; (repeat' split) <;> omega) | grind), ?_⟩
                refine ⟨by (first | omega | with_reducible assumption | (unfold rng; omega) | (unfold rng; (repeat' split) <;> omega) | grind), ?_⟩
                refine s_X16_hang g (by refine Rg.aI g ?_ (by simp only [rgT]; first | with_reducible exact nZ_rng _ | with_reducible exact nB_rng _ | with_reducible exact wr_rng _ | with_reducible exact i32any _ | (first | omega | with_reducible assumption | (unfold rng; omega) | (unfold rng; (repeat' split) <;> omega) | grind)); exact rτ20) (hi20.1.cut (r := v4) (p := v5) hT j1 j3 (fun q => ⟨(j4 q).1, (j4 q).2.1⟩) (by intros; (try simp only [rII, rIJ, rIP, rJJ, rJI, rJP, rPP, rPI, rPJ, g1, g2, g3, g4, g5, g6, g7, g8, Nat.reduceEqDiff, Nat.reduceAdd, false_and, and_false, true_and, and_true, reduceIte, nZ0, nZ1, eτ20_83.1, eτ20_83.2, fun a k => (jτ20 a k).1, fun a k => (jτ20 a k).2, pτ20]) <;> (repeat' split) <;> first | omega | grind) (by intros; (try simp only [rII, rIJ, rIP, rJJ, rJI, rJP, rPP, rPI, rPJ, g1, g2, g3, g4, g5, g6, g7, g8, Nat.reduceEqDiff, Nat.reduceAdd, false_and, and_false, true_and, and_true, reduceIte, nZ0, nZ1, eτ20_83.1, eτ20_83.2, fun a k => (jτ20 a k).1, fun a k => (jτ20 a k).2, pτ20]) <;> (repeat' split) <;> first | omega | grind) (by simp only [rII, rIJ, rIP, rJJ, rJI, rJP, rPP, rPI, rPJ, g1, g2, g3, g4, g5, g6, g7, g8, Nat.reduceEqDiff, Nat.reduceAdd, false_and, and_false, true_and, and_true, reduceIte, nZ0, nZ1, eτ20_83.1, eτ20_83.2, fun a k => (jτ20 a k).1, fun a k => (jτ20 a k).2, pτ20]) (by simp only [rII, rIJ, rIP, rJJ, rJI, rJP, rPP, rPI, rPJ, g1, g2, g3, g4, g5, g6, g7, g8, Nat.reduceEqDiff, Nat.reduceAdd, false_and, and_false, true_and, and_true, reduceIte, nZ0, nZ1, eτ20_83.1, eτ20_83.2, fun a k => (jτ20 a k).1, fun a k => (jτ20 a k).2, pτ20])) (by (try simp only [rII, rIJ, rIP, rJJ, rJI, rJP, rPP, rPI, rPJ, g1, g2, g3, g4, g5, g6, g7, g8, Nat.reduceEqDiff, Nat.reduceAdd, false_and, and_false, true_and, and_true, reduceIte, nZ0, nZ1, eτ20_83.1, eτ20_83.2, fun a k => (jτ20 a k).1, fun a k => (jτ20 a k).2, pτ20]) <;> (first | omega | with_reducible assumption | (unfold rng; omega) | (unfold rng; (repeat' split) <;> omega) | grind)) (by simp [up]) (by simp only [rII, rIJ, rIP, rJJ, rJI, rJP, rPP, rPI, rPJ, g1, g2, g3, g4, g5, g6, g7, g8, Nat.reduceEqDiff, Nat.reduceAdd, false_and, and_false, true_and, and_true, reduceIte, nZ0, nZ1, eτ20_83.1, eτ20_83.2, fun a k => (jτ20 a k).1, fun a k => (jτ20 a k).2, pτ20]; rw [if_neg (by omega)]; exact hA2.2) (by simp only [rII, rIJ, rIP, rJJ, rJI, rJP, rPP, rPI, rPJ, g1, g2, g3, g4, g5, g6, g7, g8, Nat.reduceEqDiff, Nat.reduceAdd, false_and, and_false, true_and, and_true, reduceIte, nZ0, nZ1, eτ20_83.1, eτ20_83.2, fun a k => (jτ20 a k).1, fun a k => (jτ20 a k).2, pτ20, up]; rw [if_neg (by omega)]; exact hA2.1) (by omega) (fun σ29 _ rσ29 fc p8 => ?_)
                have fσ29 : Fr ra jx rm [86, 87, 88, 89] [] σ σ29 := Fr.tr (by refine Fr.aI g ?_ (by decide); exact fτ20) (Fr.mor (fc) (by decide) (by decide))
                have p9 := p8
                simp only [rII, rIJ, rIP, rJJ, rJI, rJP, rPP, rPI, rPJ, g1, g2, g3, g4, g5, g6, g7, g8, Nat.reduceEqDiff, Nat.reduceAdd, false_and, and_false, true_and, and_true, reduceIte, nZ0, nZ1, eτ20_83.1, eτ20_83.2, fun a k => (jτ20 a k).1, fun a k => (jτ20 a k).2, pτ20] at p9
                have eσ29_83 := fσ29.1 83 (by decide)
                have jσ29 := fσ29.2.2.1
                have pσ29 := fσ29.2.2.2
                try simp only [forall_eq, rII, rIJ, rIP, rJJ, rJI, rJP, rPP, rPI, rPJ, g1, g2, g3, g4, g5, g6, g7, g8, Nat.reduceEqDiff, Nat.reduceAdd, false_and, and_false, true_and, and_true, reduceIte, nZ0, nZ1, eσ29_83.1, eσ29_83.2, fun a k => (jσ29 a k).1, fun a k => (jσ29 a k).2, pσ29]
                refine ih20 _ ?_ ?_ ?_ ?_
                · exact rσ29
                · exact fσ29
                · exact HeG.pass2 p9 (by omega) hi20 hm20 hT hV (by omega) hne
                · omega
            · rename_i hc61
              skip
              unfold w_X16_show_64
              try simp only [forall_eq, rII, rIJ, rIP, rJJ, rJI, rJP, rPP, rPI, rPJ, g1, g2, g3, g4, g5, g6, g7, g8, Nat.reduceEqDiff, Nat.reduceAdd, false_and, and_false, true_and, and_true, reduceIte, nZ0, nZ1, eτ20_83.1, eτ20_83.2, fun a k => (jτ20 a k).1, fun a k => (jτ20 a k).2, pτ20]
              have h7 := hi58.2.2.2.2.2.2.resolve_left (by assumption)
              have n7 := hi20.1.nd h7.1 hT
              have n71 := n7.1; have n72 := n7.2.1; have n73 := n7.2.2.1; have n74 := n7.2.2.2
              have j1 := hi58.1; have j2 := hi58.2.1; have j3 := hi58.2.2.1; have j4 := hi58.2.2.2.1; have j5 := hi58.2.2.2.2.1; have j6 := hi58.2.2.2.2.2.1
              refine ⟨by (first | omega | with_reducible assumption | (unfold rng; omega) | (unfold rng; (repeat' split) <;> omega) | grind), ?_⟩
              refine ⟨by (first | omega | with_reducible assumption | (unfold rng; omega) | (unfold rng; (repeat' split) <;> omega) | grind), ?_⟩
              refine ⟨by (first | omega | with_reducible assumption | (unfold rng; omega) | (unfold rng; (repeat' split) <;> omega) | grind), ?_⟩
              refine ⟨by (first | omega | with_reducible assumption | (unfold rng; omega) | (unfold rng; (repeat' split) <;> omega) | grind), ?_⟩
              refine s_X16_order (b3 := (ra 84)) (n3 := 16000) (b7 := (ra 84)) (n7 := 16000) g rτ20 rfl (Or.inl ⟨84, rfl, by decide⟩) rfl (Or.inl ⟨84, rfl, by decide⟩) (by (try simp only [rII, rIJ, rIP, rJJ, rJI, rJP, rPP, rPI, rPJ, g1, g2, g3, g4, g5, g6, g7, g8, Nat.reduceEqDiff, Nat.reduceAdd, false_and, and_false, true_and, and_true, reduceIte, nZ0, nZ1, eτ20_83.1, eτ20_83.2, fun a k => (jτ20 a k).1, fun a k => (jτ20 a k).2, pτ20]) <;> (first | omega | with_reducible assumption | (unfold rng; omega) | (unfold rng; (repeat' split) <;> omega) | grind)) (by (try simp only [rII, rIJ, rIP, rJJ, rJI, rJP, rPP, rPI, rPJ, g1, g2, g3, g4, g5, g6, g7, g8, Nat.reduceEqDiff, Nat.reduceAdd, false_and, and_false, true_and, and_true, reduceIte, nZ0, nZ1, eτ20_83.1, eτ20_83.2, fun a k => (jτ20 a k).1, fun a k => (jτ20 a k).2, pτ20]) <;> (first | omega | with_reducible assumption | (unfold rng; omega) | (unfold rng; (repeat' split) <;> omega) | grind)) (by (try simp only [rII, rIJ, rIP, rJJ, rJI, rJP, rPP, rPI, rPJ, g1, g2, g3, g4, g5, g6, g7, g8, Nat.reduceEqDiff, Nat.reduceAdd, false_and, and_false, true_and, and_true, reduceIte, nZ0, nZ1, eτ20_83.1, eτ20_83.2, fun a k => (jτ20 a k).1, fun a k => (jτ20 a k).2, pτ20]) <;> (first | omega | with_reducible assumption | (unfold rng; omega) | (unfold rng; (repeat' split) <;> omega) | grind)) (by (try simp only [rII, rIJ, rIP, rJJ, rJI, rJP, rPP, rPI, rPJ, g1, g2, g3, g4, g5, g6, g7, g8, Nat.reduceEqDiff, Nat.reduceAdd, false_and, and_false, true_and, and_true, reduceIte, nZ0, nZ1, eτ20_83.1, eτ20_83.2, fun a k => (jτ20 a k).1, fun a k => (jτ20 a k).2, pτ20]) <;> (first | omega | with_reducible assumption | (unfold rng; omega) | (unfold rng; (repeat' split) <;> omega) | grind)) (by (try simp only [rII, rIJ, rIP, rJJ, rJI, rJP, rPP, rPI, rPJ, g1, g2, g3, g4, g5, g6, g7, g8, Nat.reduceEqDiff, Nat.reduceAdd, false_and, and_false, true_and, and_true, reduceIte, nZ0, nZ1, eτ20_83.1, eτ20_83.2, fun a k => (jτ20 a k).1, fun a k => (jτ20 a k).2, pτ20]) <;> (first | omega | with_reducible assumption | (unfold rng; omega) | (unfold rng; (repeat' split) <;> omega) | grind)) (fun r31 p9 => ?_)
              try simp only [forall_eq, rII, rIJ, rIP, rJJ, rJI, rJP, rPP, rPI, rPJ, g1, g2, g3, g4, g5, g6, g7, g8, Nat.reduceEqDiff, Nat.reduceAdd, false_and, and_false, true_and, and_true, reduceIte, nZ0, nZ1, eτ20_83.1, eτ20_83.2, fun a k => (jτ20 a k).1, fun a k => (jτ20 a k).2, pτ20]
              split
              · rename_i hc101
                skip
                unfold w_X16_show_112
                try simp only [forall_eq, rII, rIJ, rIP, rJJ, rJI, rJP, rPP, rPI, rPJ, g1, g2, g3, g4, g5, g6, g7, g8, Nat.reduceEqDiff, Nat.reduceAdd, false_and, and_false, true_and, and_true, reduceIte, nZ0, nZ1, eτ20_83.1, eτ20_83.2, fun a k => (jτ20 a k).1, fun a k => (jτ20 a k).2, pτ20]
                refine ⟨by (first | omega | with_reducible assumption | (unfold rng; omega) | (unfold rng; (repeat' split) <;> omega) | grind), ?_⟩
                have q10 := rτ20.1 86 (v7.toNat); simp only [rgT] at q10
                refine ih58 _ _ _ _ ?_ ?_
                · (try simp only [rII, rIJ, rIP, rJJ, rJI, rJP, rPP, rPI, rPJ, g1, g2, g3, g4, g5, g6, g7, g8, Nat.reduceEqDiff, Nat.reduceAdd, false_and, and_false, true_and, and_true, reduceIte, nZ0, nZ1, eτ20_83.1, eτ20_83.2, fun a k => (jτ20 a k).1, fun a k => (jτ20 a k).2, pτ20]) <;> (first | omega | with_reducible assumption | (unfold rng; omega) | (unfold rng; (repeat' split) <;> omega) | grind)
                · (try simp only [rII, rIJ, rIP, rJJ, rJI, rJP, rPP, rPI, rPJ, g1, g2, g3, g4, g5, g6, g7, g8, Nat.reduceEqDiff, Nat.reduceAdd, false_and, and_false, true_and, and_true, reduceIte, nZ0, nZ1, eτ20_83.1, eτ20_83.2, fun a k => (jτ20 a k).1, fun a k => (jτ20 a k).2, pτ20]) <;> (first | omega | with_reducible assumption | (unfold rng; omega) | (unfold rng; (repeat' split) <;> omega) | grind)
              · rename_i hc101
                skip
                unfold w_X16_show_104
                try simp only [forall_eq, rII, rIJ, rIP, rJJ, rJI, rJP, rPP, rPI, rPJ, g1, g2, g3, g4, g5, g6, g7, g8, Nat.reduceEqDiff, Nat.reduceAdd, false_and, and_false, true_and, and_true, reduceIte, nZ0, nZ1, eτ20_83.1, eτ20_83.2, fun a k => (jτ20 a k).1, fun a k => (jτ20 a k).2, pτ20]
                unfold w_X16_show_112
                try simp only [forall_eq, rII, rIJ, rIP, rJJ, rJI, rJP, rPP, rPI, rPJ, g1, g2, g3, g4, g5, g6, g7, g8, Nat.reduceEqDiff, Nat.reduceAdd, false_and, and_false, true_and, and_true, reduceIte, nZ0, nZ1, eτ20_83.1, eτ20_83.2, fun a k => (jτ20 a k).1, fun a k => (jτ20 a k).2, pτ20]
                refine ⟨by (first | omega | with_reducible assumption | (unfold rng; omega) | (unfold rng; (repeat' split) <;> omega) | grind), ?_⟩
                have q11 := rτ20.1 86 (v7.toNat); simp only [rgT] at q11
                refine ih58 _ _ _ _ ?_ ?_
                · (try simp only [rII, rIJ, rIP, rJJ, rJI, rJP, rPP, rPI, rPJ, g1, g2, g3, g4, g5, g6, g7, g8, Nat.reduceEqDiff, Nat.reduceAdd, false_and, and_false, true_and, and_true, reduceIte, nZ0, nZ1, eτ20_83.1, eτ20_83.2, fun a k => (jτ20 a k).1, fun a k => (jτ20 a k).2, pτ20]) <;> (first | omega | with_reducible assumption | (unfold rng; omega) | (unfold rng; (repeat' split) <;> omega) | grind)
                · (try simp only [rII, rIJ, rIP, rJJ, rJI, rJP, rPP, rPI, rPJ, g1, g2, g3, g4, g5, g6, g7, g8, Nat.reduceEqDiff, Nat.reduceAdd, false_and, and_false, true_and, and_true, reduceIte, nZ0, nZ1, eτ20_83.1, eτ20_83.2, fun a k => (jτ20 a k).1, fun a k => (jτ20 a k).2, pτ20]) <;> (first | omega | with_reducible assumption | (unfold rng; omega) | (unfold rng; (repeat' split) <;> omega) | grind)
        refine ⟨_, L58 _ _ _ _ _ ?_ (Nat.lt_succ_self _)⟩
        · (try simp only [rII, rIJ, rIP, rJJ, rJI, rJP, rPP, rPI, rPJ, g1, g2, g3, g4, g5, g6, g7, g8, Nat.reduceEqDiff, Nat.reduceAdd, false_and, and_false, true_and, and_true, reduceIte, nZ0, nZ1, eτ20_83.1, eτ20_83.2, fun a k => (jτ20 a k).1, fun a k => (jτ20 a k).2, pτ20]) <;> (first | omega | with_reducible assumption | (unfold rng; omega) | (unfold rng; (repeat' split) <;> omega) | grind)
  refine ⟨((mn0 (3 * v1 + 1)).toNat) + 1, L20 _ _ ?_ ?_ ?_ (by omega)⟩
  · exact rσ
  · exact fσ
  · exact ⟨own0, ps0, mn0, la0, ⟨hG0, fun S hS _ => hA0 S hS⟩, by omega⟩
set_option maxHeartbeats 8000000 in
theorem s_X16_noRun {ra : Nat → Nat} {jx : Nat → Nat → Nat} {rm : Nat} (g : Geo ra jx rm) {σ : Sg} (rσ : Rg ra jx rm σ) {Q : Sg → Unit → Prop} {X : Sg → String → Prop} (hQ : ∀ (σ' : Sg) (r : Unit), Rg ra jx rm σ' → Fr ra jx rm [40, 41, 42, 43, 44, 45, 46, 47, 48, 49, 54, 55, 56, 57, 58, 65, 75, 76, 77, 78, 86, 87, 88, 89, 98] [27, 30, 31, 36, 50, 66, 67, 79, 80, 90, 91, 92, 93, 94, 110, 111, 112] σ σ' → (HeE ra rm σ' ∧ RecI ra rm σ' (fun a => if 0 ≤ a ∧ a < 4000 then 64 else -1) (fun a => 4000 - 1 - a) ∧ ThE ra rm σ' ∧ gI σ' rm 36 = 0 ∧ gI σ' rm 50 = 0 ∧ gI σ' rm 30 = 0 ∧ gI σ' rm 31 = 0 ∧ gI σ' (ra 98) 0 = 0 ∧ gI σ' (ra 98) 1 = 0 ∧ (∀ i : Nat, (i : Int) < 1100 → gI σ' (ra 54) i = 0) ∧ (∀ i : Nat, (i : Int) < 64 → gI σ' (ra 45) i = -1)) → Q σ' r) : wp_X16_noRun ra jx rm σ Q X := by
  obtain ⟨g1, g2, g3, g4, g5, g6, g7, g8⟩ := id g
  have fσ : Fr ra jx rm [40, 41, 42, 43, 44, 45, 46, 47, 48, 49, 54, 55, 56, 57, 58, 65, 75, 76, 77, 78, 86, 87, 88, 89, 98] [27, 30, 31, 36, 50, 66, 67, 79, 80, 90, 91, 92, 93, 94, 110, 111, 112] σ σ := Fr.rf
  unfold wp_X16_noRun
  unfold w_X16_noRun_0
  try simp only [forall_eq, rII, rIJ, rIP, rJJ, rJI, rJP, rPP, rPI, rPJ, g1, g2, g3, g4, g5, g6, g7, g8, Nat.reduceEqDiff, Nat.reduceAdd, false_and, and_false, true_and, and_true, reduceIte, nZ0, nZ1]
  refine s_X16_noHeld g (by refine Rg.aI g ?_ (by simp only [rgT]; first | with_reducible exact nZ_rng _ | with_reducible exact nB_rng _ | with_reducible exact wr_rng _ | with_reducible exact i32any _ | (first | omega | with_reducible assumption | (unfold rng; omega) | (unfold rng; (repeat' split) <;> omega) | grind)); refine Rg.aI g ?_ (by simp only [rgT]; first | with_reducible exact nZ_rng _ | with_reducible exact nB_rng _ | with_reducible exact wr_rng _ | with_reducible exact i32any _ | (first | omega | with_reducible assumption | (unfold rng; omega) | (unfold rng; (repeat' split) <;> omega) | grind)); refine Rg.sI g ?_ (by simp only [rgS]; first | with_reducible exact nZ_rng _ | with_reducible exact nB_rng _ | with_reducible exact wr_rng _ | with_reducible exact i32any _ | (first | omega | with_reducible assumption | (unfold rng; omega) | (unfold rng; (repeat' split) <;> omega) | grind)); refine Rg.sI g ?_ (by simp only [rgS]; first | with_reducible exact nZ_rng _ | with_reducible exact nB_rng _ | with_reducible exact wr_rng _ | with_reducible exact i32any _ | (first | omega | with_reducible assumption | (unfold rng; omega) | (unfold rng; (repeat' split) <;> omega) | grind)); refine Rg.sJ g ?_; refine Rg.sJ g ?_; refine Rg.sI g ?_ (by simp only [rgS]; first | with_reducible exact nZ_rng _ | with_reducible exact nB_rng _ | with_reducible exact wr_rng _ | with_reducible exact i32any _ | (first | omega | with_reducible assumption | (unfold rng; omega) | (unfold rng; (repeat' split) <;> omega) | grind)); refine Rg.sI g ?_ (by simp only [rgS]; first | with_reducible exact nZ_rng _ | with_reducible exact nB_rng _ | with_reducible exact wr_rng _ | with_reducible exact i32any _ | (first | omega | with_reducible assumption | (unfold rng; omega) | (unfold rng; (repeat' split) <;> omega) | grind)); refine Rg.sI g ?_ (by simp only [rgS]; first | with_reducible exact nZ_rng _ | with_reducible exact nB_rng _ | with_reducible exact wr_rng _ | with_reducible exact i32any _ | (first | omega | with_reducible assumption | (unfold rng; omega) | (unfold rng; (repeat' split) <;> omega) | grind)); refine Rg.sI g ?_ (by simp only [rgS]; first | with_reducible exact nZ_rng _ | with_reducible exact nB_rng _ | with_reducible exact wr_rng _ | with_reducible exact i32any _ | (first | omega | with_reducible assumption | (unfold rng; omega) | (unfold rng; (repeat' split) <;> omega) | grind)); refine Rg.sI g ?_ (by simp only [rgS]; first | with_reducible exact nZ_rng _ | with_reducible exact nB_rng _ | with_reducible exact wr_rng _ | with_reducible exact i32any _ | (first | omega | with_reducible assumption | (unfold rng; omega) | (unfold rng; (repeat' split) <;> omega) | grind)); refine Rg.sI g ?_ (by simp only [rgS]; first | with_reducible exact nZ_rng _ | with_reducible exact nB_rng _ | with_reducible exact wr_rng _ | with_reducible exact i32any _ | (first | omega | with_reducible assumption | (unfold rng; omega) | (unfold rng; (repeat' split) <;> omega) | grind)); refine Rg.sI g ?_ (by simp only [rgS]; first | with_reducible exact nZ_rng _ | with_reducible exact nB_rng _ | with_reducible exact wr_rng _ | with_reducible exact i32any _ | (first | omega | with_reducible assumption | (unfold rng; omega) | (unfold rng; (repeat' split) <;> omega) | grind)); exact rσ) (fun σ46 _ rσ46 fc p1 => ?_)
  have fσ46 : Fr ra jx rm [40, 41, 42, 43, 44, 45, 46, 47, 48, 49, 54, 55, 56, 57, 58, 65, 75, 76, 77, 78, 86, 87, 88, 89, 98] [27, 30, 31, 36, 50, 66, 67, 79, 80, 90, 91, 92, 93, 94, 110, 111, 112] σ σ46 := Fr.tr (by refine Fr.aI g ?_ (by decide); refine Fr.aI g ?_ (by decide); refine Fr.sI g ?_ (by decide); refine Fr.sI g ?_ (by decide); refine Fr.sJ g ?_ (by decide); refine Fr.sJ g ?_ (by decide); refine Fr.sI g ?_ (by decide); refine Fr.sI g ?_ (by decide); refine Fr.sI g ?_ (by decide); refine Fr.sI g ?_ (by decide); refine Fr.sI g ?_ (by decide); refine Fr.sI g ?_ (by decide); refine Fr.sI g ?_ (by decide); exact fσ) (Fr.mor (fc) (by decide) (by decide))
  have a9 := p1
  have s36 := (fc.2.1 36 (by decide)).1; have s50 := (fc.2.1 50 (by decide)).1; have s30 := (fc.2.1 30 (by decide)).1; have s31 := (fc.2.1 31 (by decide)).1; have s98 := (fc.1 98 (by decide)).1
  simp only [rII, rIJ, rIP, rJJ, rJI, rJP, rPP, rPI, rPJ, g1, g2, g3, g4, g5, g6, g7, g8, Nat.reduceEqDiff, Nat.reduceAdd, false_and, and_false, true_and, and_true, reduceIte, nZ0, nZ1] at s36 s50 s30 s31
  have jσ46 := fσ46.2.2.1
  try simp only [forall_eq, rII, rIJ, rIP, rJJ, rJI, rJP, rPP, rPI, rPJ, g1, g2, g3, g4, g5, g6, g7, g8, Nat.reduceEqDiff, Nat.reduceAdd, false_and, and_false, true_and, and_true, reduceIte, nZ0, nZ1, fun a k => (jσ46 a k).1, fun a k => (jσ46 a k).2]
  refine s_X16_noRecords g rσ46 (fun σ47 _ rσ47 fc p2 => ?_)
  have fσ47 : Fr ra jx rm [40, 41, 42, 43, 44, 45, 46, 47, 48, 49, 54, 55, 56, 57, 58, 65, 75, 76, 77, 78, 86, 87, 88, 89, 98] [27, 30, 31, 36, 50, 66, 67, 79, 80, 90, 91, 92, 93, 94, 110, 111, 112] σ σ47 := Fr.tr fσ46 (Fr.mor (fc) (by decide) (by decide))
  have b9 := p2
  have a9 := HeE.fr a9 fc (by decide) (by decide)
  have u36 := (fc.2.1 36 (by decide)).1; have u50 := (fc.2.1 50 (by decide)).1; have u30 := (fc.2.1 30 (by decide)).1; have u31 := (fc.2.1 31 (by decide)).1; have u98 := (fc.1 98 (by decide)).1
  have jσ47 := fσ47.2.2.1
  try simp only [forall_eq, rII, rIJ, rIP, rJJ, rJI, rJP, rPP, rPI, rPJ, g1, g2, g3, g4, g5, g6, g7, g8, Nat.reduceEqDiff, Nat.reduceAdd, false_and, and_false, true_and, and_true, reduceIte, nZ0, nZ1, fun a k => (jσ47 a k).1, fun a k => (jσ47 a k).2]
  refine s_X16_empty g rσ47 (fun σ48 _ rσ48 fc p3 => ?_)
  have fσ48 : Fr ra jx rm [40, 41, 42, 43, 44, 45, 46, 47, 48, 49, 54, 55, 56, 57, 58, 65, 75, 76, 77, 78, 86, 87, 88, 89, 98] [27, 30, 31, 36, 50, 66, 67, 79, 80, 90, 91, 92, 93, 94, 110, 111, 112] σ σ48 := Fr.tr fσ47 (Fr.mor (fc) (by decide) (by decide))
  have c9 := p3
  have a9 := HeE.fr a9 fc (by decide) (by decide)
  have b9 := RecI.fr b9 fc (by decide) (by decide)
  have w36 := (fc.2.1 36 (by decide)).1; have w50 := (fc.2.1 50 (by decide)).1; have w30 := (fc.2.1 30 (by decide)).1; have w31 := (fc.2.1 31 (by decide)).1; have w98 := (fc.1 98 (by decide)).1
  have jσ48 := fσ48.2.2.1
  try simp only [forall_eq, rII, rIJ, rIP, rJJ, rJI, rJP, rPP, rPI, rPJ, g1, g2, g3, g4, g5, g6, g7, g8, Nat.reduceEqDiff, Nat.reduceAdd, false_and, and_false, true_and, and_true, reduceIte, nZ0, nZ1, fun a k => (jσ48 a k).1, fun a k => (jσ48 a k).2]
  refine hQ _ _ ?_ ?_ ?_
  · exact rσ48
  · exact fσ48
  · refine ⟨a9, b9, c9.1, ?_, ?_, ?_, ?_, ?_, ?_, c9.2.1, c9.2.2⟩ <;> first | omega | (rw [w98, u98, s98]; simp only [rII, rIJ, rIP, rJJ, rJI, rJP, rPP, rPI, rPJ, g1, g2, g3, g4, g5, g6, g7, g8, Nat.reduceEqDiff, Nat.reduceAdd, false_and, and_false, true_and, and_true, reduceIte, nZ0, nZ1, fun a k => (jσ48 a k).1, fun a k => (jσ48 a k).2])
set_option maxHeartbeats 4000000 in
theorem s_X16_takeWatermark {ra : Nat → Nat} {jx : Nat → Nat → Nat} {rm : Nat} {ja : Nat} (g : Geo ra jx rm) {σ : Sg} {v1 : Int} {v2 : Int} {v3 : Int64} {v5 : Int} {v6 : Int} (rσ : Rg ra jx rm σ) (hj : gP σ rm 17 = some ja) (hja : ja = ra 15 ∨ ja = ra 16) (hre : RecE ra jx rm ja σ) (hth : ThE ra rm σ) (h1 : 0 ≤ v1 ∧ v1 < 64) (h2 : 0 ≤ v2 ∧ v2 < 1100) (h3 : v3.toInt ≤ 4611686018427387904) (h5 : 0 ≤ v5 ∧ 1 ≤ v6 ∧ v5 + v6 ≤ 1100) (hp : 1 ≤ gI σ rm 33) (hjo : JobOK jx ja σ) (hto : gI σ (ra 38) v1.toNat < gI σ ja 0) {Q : Sg → Unit → Prop} {X : Sg → String → Prop} (hQ : ∀ (σ' : Sg) (r : Unit), Rg ra jx rm σ' → Fr ra jx rm [20, 26, 40, 46, 47, 48, 49, 56, 60, 61, 62, 63, 64, 65, 68, 69, 70, 71, 72, 73, 74, 75, 76, 77, 78, 81, 82] [21, 27, 66, 67, 79, 80] σ σ' → (RecE ra jx rm ja σ' ∧ ThE ra rm σ') → Q σ' r) (hX : ∀ (σ' : Sg) (E : String), Rg ra jx rm σ' → Fr ra jx rm [20, 26, 40, 46, 47, 48, 49, 56, 60, 61, 62, 63, 64, 65, 68, 69, 70, 71, 72, 73, 74, 75, 76, 77, 78, 81, 82] [21, 27, 66, 67, 79, 80] σ σ' → (E = "StreamHouseModel$Broken" ∧ ThE ra rm σ' ∧ RecE ra jx rm ja σ') → X σ' E) : wp_X16_takeWatermark ra jx rm v1 v2 v3 v5 v6 σ Q X := by
  obtain ⟨g1, g2, g3, g4, g5, g6, g7, g8⟩ := id g
  have fσ : Fr ra jx rm [20, 26, 40, 46, 47, 48, 49, 56, 60, 61, 62, 63, 64, 65, 68, 69, 70, 71, 72, 73, 74, 75, 76, 77, 78, 81, 82] [21, 27, 66, 67, 79, 80] σ σ := Fr.rf
  unfold wp_X16_takeWatermark
  unfold w_X16_takeWatermark_0
  try simp only [forall_eq, rII, rIJ, rIP, rJJ, rJI, rJP, rPP, rPI, rPJ, g1, g2, g3, g4, g5, g6, g7, g8, Nat.reduceEqDiff, Nat.reduceAdd, false_and, and_false, true_and, and_true, reduceIte, nZ0, nZ1]
  refine ⟨by (first | omega | with_reducible assumption | (unfold rng; omega) | (unfold rng; (repeat' split) <;> omega) | grind), ?_⟩
  refine ⟨by (first | omega | with_reducible assumption | (unfold rng; omega) | (unfold rng; (repeat' split) <;> omega) | grind), ?_⟩
  have L20 : ∀ (fu20 : Nat) (τ20 : Sg) (v7 : Int64) (v9 : Int), Rg ra jx rm τ20 → Fr ra jx rm [20, 26, 40, 46, 47, 48, 49, 56, 60, 61, 62, 63, 64, 65, 68, 69, 70, 71, 72, 73, 74, 75, 76, 77, 78, 81, 82] [21, 27, 66, 67, 79, 80] σ τ20 → (v5 ≤ v9 ∧ v9 ≤ v5 + v6 ∧ v7.toInt ≤ 4611686018427387904 ∧ RecE ra jx rm ja τ20 ∧ ThE ra rm τ20) → ((v5 + v6 - v9).toNat) < fu20 → wl_X16_takeWatermark_20 ra jx rm Q X fu20 τ20 v1 v5 v6 v7 v9 := by
    intro fu20
    induction fu20 with
    | zero => intro τ20 _ _ _ _ _ h9; omega
    | succ fu20 ih20 =>
      intro τ20 v7 v9 rτ20 fτ20 hi20 hm20
      unfold wl_X16_takeWatermark_20
      have eτ20_38 := fτ20.1 38 (by decide)
      have jτ20 := fτ20.2.2.1
      have obτ20 := Fr.ob fτ20 hja (by decide)
      unfold w_X16_takeWatermark_20
      try simp only [forall_eq, rII, rIJ, rIP, rJJ, rJI, rJP, rPP, rPI, rPJ, g1, g2, g3, g4, g5, g6, g7, g8, Nat.reduceEqDiff, Nat.reduceAdd, false_and, and_false, true_and, and_true, reduceIte, nZ0, nZ1, eτ20_38.1, eτ20_38.2, fun a k => (jτ20 a k).1, fun a k => (jτ20 a k).2, obτ20]
      obtain ⟨i1, i2, i3, i4, i5⟩ := hi20
      refine ⟨by (first | omega | with_reducible assumption | (unfold rng; omega) | (unfold rng; (repeat' split) <;> omega) | grind), ?_⟩
      split
      · rename_i hc27
        skip
        unfold w_X16_takeWatermark_50
        try simp only [forall_eq, rII, rIJ, rIP, rJJ, rJI, rJP, rPP, rPI, rPJ, g1, g2, g3, g4, g5, g6, g7, g8, Nat.reduceEqDiff, Nat.reduceAdd, false_and, and_false, true_and, and_true, reduceIte, nZ0, nZ1, eτ20_38.1, eτ20_38.2, fun a k => (jτ20 a k).1, fun a k => (jτ20 a k).2, obτ20]
        refine ⟨by (first | omega | with_reducible assumption | (unfold rng; omega) | (unfold rng; (repeat' split) <;> omega) | grind), ?_⟩
        split
        · rename_i hc59
          skip
          unfold w_X16_takeWatermark_85
          try simp only [forall_eq, rII, rIJ, rIP, rJJ, rJI, rJP, rPP, rPI, rPJ, g1, g2, g3, g4, g5, g6, g7, g8, Nat.reduceEqDiff, Nat.reduceAdd, false_and, and_false, true_and, and_true, reduceIte, nZ0, nZ1, eτ20_38.1, eτ20_38.2, fun a k => (jτ20 a k).1, fun a k => (jτ20 a k).2, obτ20]
          refine hQ _ _ ?_ ?_ ?_
          · exact rτ20
          · exact fτ20
          · first | exact ⟨r9, t9⟩ | exact ⟨i4, i5⟩
        · rename_i hc59
          skip
          unfold w_X16_takeWatermark_62
          try simp only [forall_eq, rII, rIJ, rIP, rJJ, rJI, rJP, rPP, rPI, rPJ, g1, g2, g3, g4, g5, g6, g7, g8, Nat.reduceEqDiff, Nat.reduceAdd, false_and, and_false, true_and, and_true, reduceIte, nZ0, nZ1, eτ20_38.1, eτ20_38.2, fun a k => (jτ20 a k).1, fun a k => (jτ20 a k).2, obτ20]
          refine ⟨by (first | omega | with_reducible assumption | (unfold rng; omega) | (unfold rng; (repeat' split) <;> omega) | grind), ?_⟩
          refine s_X16_grow g (by refine Rg.aJ g ?_ (by simp only [rlT]; first | with_reducible assumption | omega | exact Int64.toInt_le _ | (rw [Int64.toInt_ofInt_of_le (by omega) (by omega)]; omega) | grind); exact rτ20) (by first | exact hj | (rw [fτ20.2.2.2]; exact hj)) hja (RecE.fr (K := [40]) (S := []) i4 (by repeat (first | exact Fr.rf | assumption | refine Fr.aJ g ?_ (by decide) | refine Fr.aI g ?_ (by decide) | refine Fr.sI g ?_ (by decide) | refine Fr.sJ g ?_ (by decide))) (by decide) (by decide)) (ThE.fr (jx := jx) (K := [40]) (S := []) i5 (by repeat (first | exact Fr.rf | assumption | refine Fr.aJ g ?_ (by decide) | refine Fr.aI g ?_ (by decide) | refine Fr.sI g ?_ (by decide) | refine Fr.sJ g ?_ (by decide))) (by decide) (by decide)) (by (try simp only [rII, rIJ, rIP, rJJ, rJI, rJP, rPP, rPI, rPJ, g1, g2, g3, g4, g5, g6, g7, g8, Nat.reduceEqDiff, Nat.reduceAdd, false_and, and_false, true_and, and_true, reduceIte, nZ0, nZ1, eτ20_38.1, eτ20_38.2, fun a k => (jτ20 a k).1, fun a k => (jτ20 a k).2, obτ20]) <;> (first | omega | with_reducible assumption | (unfold rng; omega) | (unfold rng; (repeat' split) <;> omega) | grind)) i3 (by (try simp only [rII, rIJ, rIP, rJJ, rJI, rJP, rPP, rPI, rPJ, g1, g2, g3, g4, g5, g6, g7, g8, Nat.reduceEqDiff, Nat.reduceAdd, false_and, and_false, true_and, and_true, reduceIte, nZ0, nZ1, eτ20_38.1, eτ20_38.2, fun a k => (jτ20 a k).1, fun a k => (jτ20 a k).2, obτ20]) <;> first | exact hp | (rw [(fτ20.2.1 33 (by decide)).1]; exact hp)) (by (try simp only [rII, rIJ, rIP, rJJ, rJI, rJP, rPP, rPI, rPJ, g1, g2, g3, g4, g5, g6, g7, g8, Nat.reduceEqDiff, Nat.reduceAdd, false_and, and_false, true_and, and_true, reduceIte, nZ0, nZ1, eτ20_38.1, eτ20_38.2, fun a k => (jτ20 a k).1, fun a k => (jτ20 a k).2, obτ20]) <;> exact JobOK.fr (K := [20, 26, 40, 46, 47, 48, 49, 56, 60, 61, 62, 63, 64, 65, 68, 69, 70, 71, 72, 73, 74, 75, 76, 77, 78, 81, 82]) (S := [21, 27, 66, 67, 79, 80]) hjo hja (by repeat (first | exact Fr.rf | assumption | refine Fr.aJ g ?_ (by decide) | refine Fr.aI g ?_ (by decide) | refine Fr.sI g ?_ (by decide) | refine Fr.sJ g ?_ (by decide))) (by decide)) (by (try simp only [rII, rIJ, rIP, rJJ, rJI, rJP, rPP, rPI, rPJ, g1, g2, g3, g4, g5, g6, g7, g8, Nat.reduceEqDiff, Nat.reduceAdd, false_and, and_false, true_and, and_true, reduceIte, nZ0, nZ1, eτ20_38.1, eτ20_38.2, fun a k => (jτ20 a k).1, fun a k => (jτ20 a k).2, obτ20]) <;> exact hto) (fun σ11 _ rσ11 fc p1 => ?_) (fun σx E rx fx px => hX _ _ rx (Fr.tr (by refine Fr.aJ g ?_ (by decide); exact fτ20) (Fr.mor (fx) (by decide) (by decide))) px)
          have fσ11 : Fr ra jx rm [20, 26, 40, 46, 47, 48, 49, 56, 60, 61, 62, 63, 64, 65, 68, 69, 70, 71, 72, 73, 74, 75, 76, 77, 78, 81, 82] [21, 27, 66, 67, 79, 80] σ σ11 := Fr.tr (by refine Fr.aJ g ?_ (by decide); exact fτ20) (Fr.mor (fc) (by decide) (by decide))
          have p9 := p1
          have eσ11_38 := fσ11.1 38 (by decide)
          have jσ11 := fσ11.2.2.1
          have obσ11 := Fr.ob fσ11 hja (by decide)
          try simp only [forall_eq, rII, rIJ, rIP, rJJ, rJI, rJP, rPP, rPI, rPJ, g1, g2, g3, g4, g5, g6, g7, g8, Nat.reduceEqDiff, Nat.reduceAdd, false_and, and_false, true_and, and_true, reduceIte, nZ0, nZ1, eσ11_38.1, eσ11_38.2, fun a k => (jσ11 a k).1, fun a k => (jσ11 a k).2, obσ11]
          refine s_X16_spread g rσ11 p9.2 (by (try simp only [rII, rIJ, rIP, rJJ, rJI, rJP, rPP, rPI, rPJ, g1, g2, g3, g4, g5, g6, g7, g8, Nat.reduceEqDiff, Nat.reduceAdd, false_and, and_false, true_and, and_true, reduceIte, nZ0, nZ1, eσ11_38.1, eσ11_38.2, fun a k => (jσ11 a k).1, fun a k => (jσ11 a k).2, obσ11]) <;> (first | omega | with_reducible assumption | (unfold rng; omega) | (unfold rng; (repeat' split) <;> omega) | grind)) (by (try simp only [rII, rIJ, rIP, rJJ, rJI, rJP, rPP, rPI, rPJ, g1, g2, g3, g4, g5, g6, g7, g8, Nat.reduceEqDiff, Nat.reduceAdd, false_and, and_false, true_and, and_true, reduceIte, nZ0, nZ1, eσ11_38.1, eσ11_38.2, fun a k => (jσ11 a k).1, fun a k => (jσ11 a k).2, obσ11]) <;> (first | omega | with_reducible assumption | (unfold rng; omega) | (unfold rng; (repeat' split) <;> omega) | grind)) i3 (fun σ12 _ rσ12 fc p2 => ?_) (fun σx E rx fx px => hX _ _ rx (Fr.tr fσ11 (Fr.mor (fx) (by decide) (by decide))) ⟨px.1, px.2, RecE.fr p9.1 fx (by decide) (by decide)⟩)
          have fσ12 : Fr ra jx rm [20, 26, 40, 46, 47, 48, 49, 56, 60, 61, 62, 63, 64, 65, 68, 69, 70, 71, 72, 73, 74, 75, 76, 77, 78, 81, 82] [21, 27, 66, 67, 79, 80] σ σ12 := Fr.tr fσ11 (Fr.mor (fc) (by decide) (by decide))
          have r9 := RecE.fr p9.1 fc (by decide) (by decide)
          have t9 := p2
          have eσ12_38 := fσ12.1 38 (by decide)
          have jσ12 := fσ12.2.2.1
          have obσ12 := Fr.ob fσ12 hja (by decide)
          try simp only [forall_eq, rII, rIJ, rIP, rJJ, rJI, rJP, rPP, rPI, rPJ, g1, g2, g3, g4, g5, g6, g7, g8, Nat.reduceEqDiff, Nat.reduceAdd, false_and, and_false, true_and, and_true, reduceIte, nZ0, nZ1, eσ12_38.1, eσ12_38.2, fun a k => (jσ12 a k).1, fun a k => (jσ12 a k).2, obσ12]
          unfold w_X16_takeWatermark_85
          try simp only [forall_eq, rII, rIJ, rIP, rJJ, rJI, rJP, rPP, rPI, rPJ, g1, g2, g3, g4, g5, g6, g7, g8, Nat.reduceEqDiff, Nat.reduceAdd, false_and, and_false, true_and, and_true, reduceIte, nZ0, nZ1, eσ12_38.1, eσ12_38.2, fun a k => (jσ12 a k).1, fun a k => (jσ12 a k).2, obσ12]
          refine hQ _ _ ?_ ?_ ?_
          · exact rσ12
          · exact fσ12
          · first | exact ⟨r9, t9⟩ | exact ⟨i4, i5⟩
      · rename_i hc27
        skip
        unfold w_X16_takeWatermark_30
        try simp only [forall_eq, rII, rIJ, rIP, rJJ, rJI, rJP, rPP, rPI, rPJ, g1, g2, g3, g4, g5, g6, g7, g8, Nat.reduceEqDiff, Nat.reduceAdd, false_and, and_false, true_and, and_true, reduceIte, nZ0, nZ1, eτ20_38.1, eτ20_38.2, fun a k => (jτ20 a k).1, fun a k => (jτ20 a k).2, obτ20]
        refine ⟨by (first | omega | with_reducible assumption | (unfold rng; omega) | (unfold rng; (repeat' split) <;> omega) | grind), ?_⟩
        refine ⟨by (first | omega | with_reducible assumption | (unfold rng; omega) | (unfold rng; (repeat' split) <;> omega) | grind), ?_⟩
        refine ih20 _ _ _ ?_ ?_ ?_ ?_
        · exact rτ20
        · exact fτ20
        · first | exact ⟨by omega, by omega, by (first | (unfold minJ; split <;> first | exact i3 | exact rτ20.2.2.2 56 _) | ((try simp only [rII, rIJ, rIP, rJJ, rJI, rJP, rPP, rPI, rPJ, g1, g2, g3, g4, g5, g6, g7, g8, Nat.reduceEqDiff, Nat.reduceAdd, false_and, and_false, true_and, and_true, reduceIte, nZ0, nZ1, eτ20_38.1, eτ20_38.2, fun a k => (jτ20 a k).1, fun a k => (jτ20 a k).2, obτ20]) <;> split <;> first | exact h3 | exact rσ.2.2.2 56 _)), i4, i5⟩ | exact ⟨by omega, by omega, by (first | (unfold minJ; split <;> first | exact i3 | exact rτ20.2.2.2 56 _) | ((try simp only [rII, rIJ, rIP, rJJ, rJI, rJP, rPP, rPI, rPJ, g1, g2, g3, g4, g5, g6, g7, g8, Nat.reduceEqDiff, Nat.reduceAdd, false_and, and_false, true_and, and_true, reduceIte, nZ0, nZ1, eτ20_38.1, eτ20_38.2, fun a k => (jτ20 a k).1, fun a k => (jτ20 a k).2, obτ20]) <;> split <;> first | exact h3 | exact rσ.2.2.2 56 _)), RecE.fr (K := [56]) (S := []) hre (by repeat (first | exact Fr.rf | assumption | refine Fr.aJ g ?_ (by decide) | refine Fr.aI g ?_ (by decide) | refine Fr.sI g ?_ (by decide) | refine Fr.sJ g ?_ (by decide))) (by decide) (by decide), ThE.fr (jx := jx) (K := [56]) (S := []) hth (by repeat (first | exact Fr.rf | assumption | refine Fr.aJ g ?_ (by decide) | refine Fr.aI g ?_ (by decide) | refine Fr.sI g ?_ (by decide) | refine Fr.sJ g ?_ (by decide))) (by decide) (by decide)⟩
        · (try simp only [rII, rIJ, rIP, rJJ, rJI, rJP, rPP, rPI, rPJ, g1, g2, g3, g4, g5, g6, g7, g8, Nat.reduceEqDiff, Nat.reduceAdd, false_and, and_false, true_and, and_true, reduceIte, nZ0, nZ1, eτ20_38.1, eτ20_38.2, fun a k => (jτ20 a k).1, fun a k => (jτ20 a k).2, obτ20]) <;> (first | omega | with_reducible assumption | (unfold rng; omega) | (unfold rng; (repeat' split) <;> omega) | grind)
  refine ⟨_, L20 _ _ _ _ ?_ ?_ ?_ (Nat.lt_succ_self _)⟩
  · refine Rg.aJ g ?_ (by simp only [rlT]; first | with_reducible assumption | omega | exact Int64.toInt_le _ | (rw [Int64.toInt_ofInt_of_le (by omega) (by omega)]; omega) | grind); exact rσ
  · refine Fr.aJ g ?_ (by decide); exact fσ
  · first | exact ⟨by omega, by omega, by (first | (unfold minJ; split <;> first | exact i3 | exact rτ20.2.2.2 56 _) | ((try simp only [rII, rIJ, rIP, rJJ, rJI, rJP, rPP, rPI, rPJ, g1, g2, g3, g4, g5, g6, g7, g8, Nat.reduceEqDiff, Nat.reduceAdd, false_and, and_false, true_and, and_true, reduceIte, nZ0, nZ1]) <;> split <;> first | exact h3 | exact rσ.2.2.2 56 _)), i4, i5⟩ | exact ⟨by omega, by omega, by (first | (unfold minJ; split <;> first | exact i3 | exact rτ20.2.2.2 56 _) | ((try simp only [rII, rIJ, rIP, rJJ, rJI, rJP, rPP, rPI, rPJ, g1, g2, g3, g4, g5, g6, g7, g8, Nat.reduceEqDiff, Nat.reduceAdd, false_and, and_false, true_and, and_true, reduceIte, nZ0, nZ1]) <;> split <;> first | exact h3 | exact rσ.2.2.2 56 _)), RecE.fr (K := [56]) (S := []) hre (by repeat (first | exact Fr.rf | assumption | refine Fr.aJ g ?_ (by decide) | refine Fr.aI g ?_ (by decide) | refine Fr.sI g ?_ (by decide) | refine Fr.sJ g ?_ (by decide))) (by decide) (by decide), ThE.fr (jx := jx) (K := [56]) (S := []) hth (by repeat (first | exact Fr.rf | assumption | refine Fr.aJ g ?_ (by decide) | refine Fr.aI g ?_ (by decide) | refine Fr.sI g ?_ (by decide) | refine Fr.sJ g ?_ (by decide))) (by decide) (by decide)⟩
set_option maxHeartbeats 4000000 in
theorem s_X16_keepPart {ra : Nat → Nat} {jx : Nat → Nat → Nat} {rm : Nat} {ja : Nat} (g : Geo ra jx rm) {σ : Sg} {v1 : Int} (rσ : Rg ra jx rm σ) (hre : RecE ra jx rm ja σ) (hmk : MkI ra jx ja σ) (h1 : 0 ≤ v1 ∧ v1 < 64) (hkm : gI σ (ra 98) 1 + gI σ (ra 78) v1.toNat ≤ 4000) {Q : Sg → Unit → Prop} {X : Sg → String → Prop} (hQ : ∀ (σ' : Sg) (r : Unit), Rg ra jx rm σ' → Fr ra jx rm [44, 98, 99, 100, 101, 102, 103, 104, 105, 106, 107, 108, 109] [] σ σ' → (MkI ra jx ja σ' ∧ gI σ' (ra 98) 0 = gI σ (ra 98) 0 ∧ gI σ' (ra 98) 1 = gI σ (ra 98) 1 + gI σ (ra 78) v1.toNat) → Q σ' r) : wp_X16_keepPart ra jx rm v1 σ Q X := by
  obtain ⟨g1, g2, g3, g4, g5, g6, g7, g8⟩ := id g
  have fσ : Fr ra jx rm [44, 98, 99, 100, 101, 102, 103, 104, 105, 106, 107, 108, 109] [] σ σ := Fr.rf
  obtain ⟨own, ps, hr0, hm0⟩ := id hre
  have t40 := rσ.2.2.2 40 v1.toNat; simp only [rlT] at t40
  have hhd := hr0.hd h1
  have hb1 := rσ.1 98 1; simp only [rgT] at hb1
  have hb0 := rσ.1 98 0; simp only [rgT] at hb0
  have hb8 := rσ.1 78 v1.toNat; simp only [rgT] at hb8
  have hfi : gI σ (ra 76) v1.toNat = -1 ∨ ps (gI σ (ra 76) v1.toNat) = 0 := by rcases hhd with q | q; exact Or.inl q; exact Or.inr (hr0.hd0 q h1).2.1
  have hf0 : gI σ (ra 76) v1.toNat = -1 → gI σ (ra 78) v1.toNat = 0 := fun q => by have z := hr0.1.2.2 v1 (by show 0 ≤ v1 ∧ v1 < 64; omega); by_cases w : 0 < gI σ (ra 78) v1.toNat; (have y := (z.2.2 w).1; simp only [fI] at y; rw [q] at y; have x := (hr0.nd y h1).1; omega); omega
  unfold wp_X16_keepPart
  unfold w_X16_keepPart_0
  try simp only [forall_eq, rII, rIJ, rIP, rJJ, rJI, rJP, rPP, rPI, rPJ, g1, g2, g3, g4, g5, g6, g7, g8, Nat.reduceEqDiff, Nat.reduceAdd, false_and, and_false, true_and, and_true, reduceIte, nZ0, nZ1]
  refine ⟨by (first | omega | with_reducible assumption | (unfold rng; omega) | (unfold rng; (repeat' split) <;> omega) | grind), ?_⟩
  have q1 := rσ.1 38 (v1.toNat); simp only [rgT] at q1
  refine ⟨by (first | omega | with_reducible assumption | (unfold rng; omega) | (unfold rng; (repeat' split) <;> omega) | grind), ?_⟩
  refine ⟨by (first | omega | with_reducible assumption | (unfold rng; omega) | (unfold rng; (repeat' split) <;> omega) | grind), ?_⟩
  refine ⟨by (first | omega | with_reducible assumption | (unfold rng; omega) | (unfold rng; (repeat' split) <;> omega) | grind), ?_⟩
  have q2 := rσ.1 39 (v1.toNat); simp only [rgT] at q2
  refine ⟨by (first | omega | with_reducible assumption | (unfold rng; omega) | (unfold rng; (repeat' split) <;> omega) | grind), ?_⟩
  refine ⟨by (first | omega | with_reducible assumption | (unfold rng; omega) | (unfold rng; (repeat' split) <;> omega) | grind), ?_⟩
  refine ⟨by (first | omega | with_reducible assumption | (unfold rng; omega) | (unfold rng; (repeat' split) <;> omega) | grind), ?_⟩
  have q3 := rσ.1 42 (v1.toNat); simp only [rgT] at q3
  refine ⟨by (first | omega | with_reducible assumption | (unfold rng; omega) | (unfold rng; (repeat' split) <;> omega) | grind), ?_⟩
  refine ⟨by (first | omega | with_reducible assumption | (unfold rng; omega) | (unfold rng; (repeat' split) <;> omega) | grind), ?_⟩
  have q4 := rσ.1 43 (v1.toNat); simp only [rgT] at q4
  refine ⟨by (first | omega | with_reducible assumption | (unfold rng; omega) | (unfold rng; (repeat' split) <;> omega) | grind), ?_⟩
  refine ⟨by (first | omega | with_reducible assumption | (unfold rng; omega) | (unfold rng; (repeat' split) <;> omega) | grind), ?_⟩
  refine ⟨by (first | omega | with_reducible assumption | (unfold rng; omega) | (unfold rng; (repeat' split) <;> omega) | grind), ?_⟩
  have q5 := rσ.1 98 0; simp only [rgT] at q5
  have q6 := rσ.1 98 1; simp only [rgT] at q6
  have q7 := rσ.1 78 (v1.toNat); simp only [rgT] at q7
  have q8 := rσ.1 76 (v1.toNat); simp only [rgT] at q8
  have L65 : ∀ (fu65 : Nat) (τ65 : Sg) (v4 : Int), Rg ra jx rm τ65 → Fr ra jx rm [44, 98, 99, 100, 101, 102, 103, 104, 105, 106, 107, 108, 109] [] σ τ65 → ((MkI ra jx ja τ65 ∧ gI τ65 (ra 98) 0 = gI σ (ra 98) 0) ∧ ((v4 = -1 ∧ gI τ65 (ra 98) 1 = gI σ (ra 98) 1 + gI σ (ra 78) v1.toNat) ∨ (own v4 = v1 ∧ gI τ65 (ra 98) 1 = gI σ (ra 98) 1 + ps v4))) → ((if v4 < 0 then 0 else gI σ (ra 78) v1.toNat - ps v4).toNat) < fu65 → wl_X16_keepPart_65 ra jx rm Q X fu65 τ65 v1 (gI σ (ra 38) v1.toNat) v4 := by
    intro fu65
    induction fu65 with
    | zero => intro τ65 _ _ _ _ h9; omega
    | succ fu65 ih65 =>
      intro τ65 v4 rτ65 fτ65 hi65 hm65
      unfold wl_X16_keepPart_65
      have eτ65_38 := fτ65.1 38 (by decide)
      have eτ65_39 := fτ65.1 39 (by decide)
      have eτ65_40 := fτ65.1 40 (by decide)
      have eτ65_42 := fτ65.1 42 (by decide)
      have eτ65_43 := fτ65.1 43 (by decide)
      have eτ65_68 := fτ65.1 68 (by decide)
      have eτ65_70 := fτ65.1 70 (by decide)
      have eτ65_71 := fτ65.1 71 (by decide)
      have eτ65_72 := fτ65.1 72 (by decide)
      have eτ65_73 := fτ65.1 73 (by decide)
      have eτ65_74 := fτ65.1 74 (by decide)
      have eτ65_75 := fτ65.1 75 (by decide)
      have eτ65_76 := fτ65.1 76 (by decide)
      have jτ65 := fτ65.2.2.1
      unfold w_X16_keepPart_65
      try simp only [forall_eq, rII, rIJ, rIP, rJJ, rJI, rJP, rPP, rPI, rPJ, g1, g2, g3, g4, g5, g6, g7, g8, Nat.reduceEqDiff, Nat.reduceAdd, false_and, and_false, true_and, and_true, reduceIte, nZ0, nZ1, eτ65_38.1, eτ65_38.2, eτ65_39.1, eτ65_39.2, eτ65_40.1, eτ65_40.2, eτ65_42.1, eτ65_42.2, eτ65_43.1, eτ65_43.2, eτ65_68.1, eτ65_68.2, eτ65_70.1, eτ65_70.2, eτ65_71.1, eτ65_71.2, eτ65_72.1, eτ65_72.2, eτ65_73.1, eτ65_73.2, eτ65_74.1, eτ65_74.2, eτ65_75.1, eτ65_75.2, eτ65_76.1, eτ65_76.2, fun a k => (jτ65 a k).1, fun a k => (jτ65 a k).2]
      obtain ⟨⟨j1, j2⟩, j3⟩ := hi65
      have hb2 := rτ65.1 98 1; simp only [rgT] at hb2
      split
      · rename_i hc68
        skip
        unfold w_X16_keepPart_238
        try simp only [forall_eq, rII, rIJ, rIP, rJJ, rJI, rJP, rPP, rPI, rPJ, g1, g2, g3, g4, g5, g6, g7, g8, Nat.reduceEqDiff, Nat.reduceAdd, false_and, and_false, true_and, and_true, reduceIte, nZ0, nZ1, eτ65_38.1, eτ65_38.2, eτ65_39.1, eτ65_39.2, eτ65_40.1, eτ65_40.2, eτ65_42.1, eτ65_42.2, eτ65_43.1, eτ65_43.2, eτ65_68.1, eτ65_68.2, eτ65_70.1, eτ65_70.2, eτ65_71.1, eτ65_71.2, eτ65_72.1, eτ65_72.2, eτ65_73.1, eτ65_73.2, eτ65_74.1, eτ65_74.2, eτ65_75.1, eτ65_75.2, eτ65_76.1, eτ65_76.2, fun a k => (jτ65 a k).1, fun a k => (jτ65 a k).2]
        have j4 : gI τ65 (ra 98) 1 = gI σ (ra 98) 1 + gI σ (ra 78) v1.toNat := by rcases j3 with q | q; exact q.2; exact absurd (hr0.nd q.1 h1).1 (by omega)
        refine ⟨by (first | omega | with_reducible assumption | (unfold rng; omega) | (unfold rng; (repeat' split) <;> omega) | grind), ?_⟩
        refine hQ _ _ ?_ ?_ ?_
        · refine Rg.aI g ?_ (by simp only [rgT]; first | with_reducible exact nZ_rng _ | with_reducible exact nB_rng _ | with_reducible exact wr_rng _ | with_reducible exact i32any _ | (first | omega | with_reducible assumption | (unfold rng; omega) | (unfold rng; (repeat' split) <;> omega) | grind)); exact rτ65
        · refine Fr.aI g ?_ (by decide); exact fτ65
        · exact ⟨MkI.fr (rm := rm) (K := [44]) (S := []) j1 (by repeat (first | exact Fr.rf | assumption | refine Fr.aJ g ?_ (by decide) | refine Fr.aI g ?_ (by decide) | refine Fr.sI g ?_ (by decide) | refine Fr.sJ g ?_ (by decide))) (by decide), by (try simp only [rII, rIJ, rIP, rJJ, rJI, rJP, rPP, rPI, rPJ, g1, g2, g3, g4, g5, g6, g7, g8, Nat.reduceEqDiff, Nat.reduceAdd, false_and, and_false, true_and, and_true, reduceIte, nZ0, nZ1, eτ65_38.1, eτ65_38.2, eτ65_39.1, eτ65_39.2, eτ65_40.1, eτ65_40.2, eτ65_42.1, eτ65_42.2, eτ65_43.1, eτ65_43.2, eτ65_68.1, eτ65_68.2, eτ65_70.1, eτ65_70.2, eτ65_71.1, eτ65_71.2, eτ65_72.1, eτ65_72.2, eτ65_73.1, eτ65_73.2, eτ65_74.1, eτ65_74.2, eτ65_75.1, eτ65_75.2, eτ65_76.1, eτ65_76.2, fun a k => (jτ65 a k).1, fun a k => (jτ65 a k).2]) <;> omega, by (try simp only [rII, rIJ, rIP, rJJ, rJI, rJP, rPP, rPI, rPJ, g1, g2, g3, g4, g5, g6, g7, g8, Nat.reduceEqDiff, Nat.reduceAdd, false_and, and_false, true_and, and_true, reduceIte, nZ0, nZ1, eτ65_38.1, eτ65_38.2, eτ65_39.1, eτ65_39.2, eτ65_40.1, eτ65_40.2, eτ65_42.1, eτ65_42.2, eτ65_43.1, eτ65_43.2, eτ65_68.1, eτ65_68.2, eτ65_70.1, eτ65_70.2, eτ65_71.1, eτ65_71.2, eτ65_72.1, eτ65_72.2, eτ65_73.1, eτ65_73.2, eτ65_74.1, eτ65_74.2, eτ65_75.1, eτ65_75.2, eτ65_76.1, eτ65_76.2, fun a k => (jτ65 a k).1, fun a k => (jτ65 a k).2]) <;> omega⟩
      · rename_i hc68
        skip
        unfold w_X16_keepPart_71
        try simp only [forall_eq, rII, rIJ, rIP, rJJ, rJI, rJP, rPP, rPI, rPJ, g1, g2, g3, g4, g5, g6, g7, g8, Nat.reduceEqDiff, Nat.reduceAdd, false_and, and_false, true_and, and_true, reduceIte, nZ0, nZ1, eτ65_38.1, eτ65_38.2, eτ65_39.1, eτ65_39.2, eτ65_40.1, eτ65_40.2, eτ65_42.1, eτ65_42.2, eτ65_43.1, eτ65_43.2, eτ65_68.1, eτ65_68.2, eτ65_70.1, eτ65_70.2, eτ65_71.1, eτ65_71.2, eτ65_72.1, eτ65_72.2, eτ65_73.1, eτ65_73.2, eτ65_74.1, eτ65_74.2, eτ65_75.1, eτ65_75.2, eτ65_76.1, eτ65_76.2, fun a k => (jτ65 a k).1, fun a k => (jτ65 a k).2]
        have hov := (j3.resolve_left (fun q => absurd q.1 (by assumption)))
        have n4 := hr0.nd hov.1 h1
        have n1 := n4.1; have n2 := n4.2.1; have n3 := n4.2.2.1; have n5 := n4.2.2.2
        have hmc := hm0 v4 (by omega)
        rw [hov.1] at hmc
        have t71 := rσ.2.2.2 71 v4.toNat; simp only [rlT] at t71
        have q9 := rτ65.1 98 1; simp only [rgT] at q9
        refine ⟨by (first | omega | with_reducible assumption | (unfold rng; omega) | (unfold rng; (repeat' split) <;> omega) | grind), ?_⟩
        refine ⟨by (first | omega | with_reducible assumption | (unfold rng; omega) | (unfold rng; (repeat' split) <;> omega) | grind), ?_⟩
        refine ⟨by (first | omega | with_reducible assumption | (unfold rng; omega) | (unfold rng; (repeat' split) <;> omega) | grind), ?_⟩
        refine ⟨by (first | omega | with_reducible assumption | (unfold rng; omega) | (unfold rng; (repeat' split) <;> omega) | grind), ?_⟩
        have q10 := rσ.1 68 (v4.toNat); simp only [rgT] at q10
        refine ⟨by (first | omega | with_reducible assumption | (unfold rng; omega) | (unfold rng; (repeat' split) <;> omega) | grind), ?_⟩
        refine ⟨by (first | omega | with_reducible assumption | (unfold rng; omega) | (unfold rng; (repeat' split) <;> omega) | grind), ?_⟩
        refine ⟨by (first | omega | with_reducible assumption | (unfold rng; omega) | (unfold rng; (repeat' split) <;> omega) | grind), ?_⟩
        refine ⟨by (first | omega | with_reducible assumption | (unfold rng; omega) | (unfold rng; (repeat' split) <;> omega) | grind), ?_⟩
        refine ⟨by (first | omega | with_reducible assumption | (unfold rng; omega) | (unfold rng; (repeat' split) <;> omega) | grind), ?_⟩
        refine ⟨by (first | omega | with_reducible assumption | (unfold rng; omega) | (unfold rng; (repeat' split) <;> omega) | grind), ?_⟩
        refine ⟨by (first | omega | with_reducible assumption | (unfold rng; omega) | (unfold rng; (repeat' split) <;> omega) | grind), ?_⟩
        refine ⟨by (first | omega | with_reducible assumption | (unfold rng; omega) | (unfold rng; (repeat' split) <;> omega) | grind), ?_⟩
        refine ⟨by (first | omega | with_reducible assumption | (unfold rng; omega) | (unfold rng; (repeat' split) <;> omega) | grind), ?_⟩
        refine ⟨by (first | omega | with_reducible assumption | (unfold rng; omega) | (unfold rng; (repeat' split) <;> omega) | grind), ?_⟩
        refine ⟨by (first | omega | with_reducible assumption | (unfold rng; omega) | (unfold rng; (repeat' split) <;> omega) | grind), ?_⟩
        have q11 := rσ.1 74 (v4.toNat); simp only [rgT] at q11
        have L187 : ∀ (fu187 : Nat) (τ187 : Sg) (v6 : Int), Rg ra jx rm τ187 → Fr ra jx rm [44, 98, 99, 100, 101, 102, 103, 104, 105, 106, 107, 108, 109] [] σ τ187 → (MkI ra jx ja τ187 ∧ gI τ187 (ra 98) 0 = gI σ (ra 98) 0 ∧ gI τ187 (ra 98) 1 = gI τ65 (ra 98) 1 + 1 ∧ 0 ≤ v6 ∧ v6 ≤ 8) → ((8 - v6).toNat) < fu187 → wl_X16_keepPart_187 ra jx rm (wl_X16_keepPart_65 ra jx rm Q X fu65) Q X fu187 τ187 v1 (gI σ (ra 38) v1.toNat) v4 (4000 + (gI τ65 (ra 98) 1)) v6 := by
          intro fu187
          induction fu187 with
          | zero => intro τ187 _ _ _ _ h9; omega
          | succ fu187 ih187 =>
            intro τ187 v6 rτ187 fτ187 hi187 hm187
            unfold wl_X16_keepPart_187
            have eτ187_38 := fτ187.1 38 (by decide)
            have eτ187_39 := fτ187.1 39 (by decide)
            have eτ187_40 := fτ187.1 40 (by decide)
            have eτ187_42 := fτ187.1 42 (by decide)
            have eτ187_43 := fτ187.1 43 (by decide)
            have eτ187_68 := fτ187.1 68 (by decide)
            have eτ187_70 := fτ187.1 70 (by decide)
            have eτ187_71 := fτ187.1 71 (by decide)
            have eτ187_72 := fτ187.1 72 (by decide)
            have eτ187_73 := fτ187.1 73 (by decide)
            have eτ187_74 := fτ187.1 74 (by decide)
            have eτ187_75 := fτ187.1 75 (by decide)
            have eτ187_76 := fτ187.1 76 (by decide)
            have jτ187 := fτ187.2.2.1
            unfold w_X16_keepPart_187
            try simp only [forall_eq, rII, rIJ, rIP, rJJ, rJI, rJP, rPP, rPI, rPJ, g1, g2, g3, g4, g5, g6, g7, g8, Nat.reduceEqDiff, Nat.reduceAdd, false_and, and_false, true_and, and_true, reduceIte, nZ0, nZ1, eτ187_38.1, eτ187_38.2, eτ187_39.1, eτ187_39.2, eτ187_40.1, eτ187_40.2, eτ187_42.1, eτ187_42.2, eτ187_43.1, eτ187_43.2, eτ187_68.1, eτ187_68.2, eτ187_70.1, eτ187_70.2, eτ187_71.1, eτ187_71.2, eτ187_72.1, eτ187_72.2, eτ187_73.1, eτ187_73.2, eτ187_74.1, eτ187_74.2, eτ187_75.1, eτ187_75.2, eτ187_76.1, eτ187_76.2, fun a k => (jτ187 a k).1, fun a k => (jτ187 a k).2]
            obtain ⟨k1, k2, k3, k4, k5⟩ := hi187
            split
            · rename_i hc191
              skip
              unfold w_X16_keepPart_226
              try simp only [forall_eq, rII, rIJ, rIP, rJJ, rJI, rJP, rPP, rPI, rPJ, g1, g2, g3, g4, g5, g6, g7, g8, Nat.reduceEqDiff, Nat.reduceAdd, false_and, and_false, true_and, and_true, reduceIte, nZ0, nZ1, eτ187_38.1, eτ187_38.2, eτ187_39.1, eτ187_39.2, eτ187_40.1, eτ187_40.2, eτ187_42.1, eτ187_42.2, eτ187_43.1, eτ187_43.2, eτ187_68.1, eτ187_68.2, eτ187_70.1, eτ187_70.2, eτ187_71.1, eτ187_71.2, eτ187_72.1, eτ187_72.2, eτ187_73.1, eτ187_73.2, eτ187_74.1, eτ187_74.2, eτ187_75.1, eτ187_75.2, eτ187_76.1, eτ187_76.2, fun a k => (jτ187 a k).1, fun a k => (jτ187 a k).2]
              refine ⟨by (first | omega | with_reducible assumption | (unfold rng; omega) | (unfold rng; (repeat' split) <;> omega) | grind), ?_⟩
              have q12 := rσ.1 75 (v4.toNat); simp only [rgT] at q12
              refine ih65 _ _ ?_ ?_ ?_ ?_
              · exact rτ187
              · exact fτ187
              · first | exact ⟨⟨k1, by omega⟩, by omega⟩ | exact ⟨⟨MkI.fr (rm := rm) (K := [107, 108, 109]) (S := []) hmk (by repeat (first | exact Fr.rf | assumption | refine Fr.aJ g ?_ (by decide) | refine Fr.aI g ?_ (by decide) | refine Fr.sI g ?_ (by decide) | refine Fr.sJ g ?_ (by decide))) (by decide), by (try simp only [rII, rIJ, rIP, rJJ, rJI, rJP, rPP, rPI, rPJ, g1, g2, g3, g4, g5, g6, g7, g8, Nat.reduceEqDiff, Nat.reduceAdd, false_and, and_false, true_and, and_true, reduceIte, nZ0, nZ1, eτ187_38.1, eτ187_38.2, eτ187_39.1, eτ187_39.2, eτ187_40.1, eτ187_40.2, eτ187_42.1, eτ187_42.2, eτ187_43.1, eτ187_43.2, eτ187_68.1, eτ187_68.2, eτ187_70.1, eτ187_70.2, eτ187_71.1, eτ187_71.2, eτ187_72.1, eτ187_72.2, eτ187_73.1, eτ187_73.2, eτ187_74.1, eτ187_74.2, eτ187_75.1, eτ187_75.2, eτ187_76.1, eτ187_76.2, fun a k => (jτ187 a k).1, fun a k => (jτ187 a k).2])⟩, by (try simp only [rII, rIJ, rIP, rJJ, rJI, rJP, rPP, rPI, rPJ, g1, g2, g3, g4, g5, g6, g7, g8, Nat.reduceEqDiff, Nat.reduceAdd, false_and, and_false, true_and, and_true, reduceIte, nZ0, nZ1, eτ187_38.1, eτ187_38.2, eτ187_39.1, eτ187_39.2, eτ187_40.1, eτ187_40.2, eτ187_42.1, eτ187_42.2, eτ187_43.1, eτ187_43.2, eτ187_68.1, eτ187_68.2, eτ187_70.1, eτ187_70.2, eτ187_71.1, eτ187_71.2, eτ187_72.1, eτ187_72.2, eτ187_73.1, eτ187_73.2, eτ187_74.1, eτ187_74.2, eτ187_75.1, eτ187_75.2, eτ187_76.1, eτ187_76.2, fun a k => (jτ187 a k).1, fun a k => (jτ187 a k).2]) <;> omega⟩
              · (try simp only [rII, rIJ, rIP, rJJ, rJI, rJP, rPP, rPI, rPJ, g1, g2, g3, g4, g5, g6, g7, g8, Nat.reduceEqDiff, Nat.reduceAdd, false_and, and_false, true_and, and_true, reduceIte, nZ0, nZ1, eτ187_38.1, eτ187_38.2, eτ187_39.1, eτ187_39.2, eτ187_40.1, eτ187_40.2, eτ187_42.1, eτ187_42.2, eτ187_43.1, eτ187_43.2, eτ187_68.1, eτ187_68.2, eτ187_70.1, eτ187_70.2, eτ187_71.1, eτ187_71.2, eτ187_72.1, eτ187_72.2, eτ187_73.1, eτ187_73.2, eτ187_74.1, eτ187_74.2, eτ187_75.1, eτ187_75.2, eτ187_76.1, eτ187_76.2, fun a k => (jτ187 a k).1, fun a k => (jτ187 a k).2]) <;> (first | omega | with_reducible assumption | (unfold rng; omega) | (unfold rng; (repeat' split) <;> omega) | grind)
            · rename_i hc191
              skip
              unfold w_X16_keepPart_194
              try simp only [forall_eq, rII, rIJ, rIP, rJJ, rJI, rJP, rPP, rPI, rPJ, g1, g2, g3, g4, g5, g6, g7, g8, Nat.reduceEqDiff, Nat.reduceAdd, false_and, and_false, true_and, and_true, reduceIte, nZ0, nZ1, eτ187_38.1, eτ187_38.2, eτ187_39.1, eτ187_39.2, eτ187_40.1, eτ187_40.2, eτ187_42.1, eτ187_42.2, eτ187_43.1, eτ187_43.2, eτ187_68.1, eτ187_68.2, eτ187_70.1, eτ187_70.2, eτ187_71.1, eτ187_71.2, eτ187_72.1, eτ187_72.2, eτ187_73.1, eτ187_73.2, eτ187_74.1, eτ187_74.2, eτ187_75.1, eτ187_75.2, eτ187_76.1, eτ187_76.2, fun a k => (jτ187 a k).1, fun a k => (jτ187 a k).2]
              refine ⟨by (first | omega | with_reducible assumption | (unfold rng; omega) | (unfold rng; (repeat' split) <;> omega) | grind), ?_⟩
              refine ⟨by (first | omega | with_reducible assumption | (unfold rng; omega) | (unfold rng; (repeat' split) <;> omega) | grind), ?_⟩
              refine ⟨by (first | omega | with_reducible assumption | (unfold rng; omega) | (unfold rng; (repeat' split) <;> omega) | grind), ?_⟩
              refine ⟨by (first | omega | with_reducible assumption | (unfold rng; omega) | (unfold rng; (repeat' split) <;> omega) | grind), ?_⟩
              refine ⟨by (first | omega | with_reducible assumption | (unfold rng; omega) | (unfold rng; (repeat' split) <;> omega) | grind), ?_⟩
              refine ⟨by (first | omega | with_reducible assumption | (unfold rng; omega) | (unfold rng; (repeat' split) <;> omega) | grind), ?_⟩
              refine ⟨by (first | omega | with_reducible assumption | (unfold rng; omega) | (unfold rng; (repeat' split) <;> omega) | grind), ?_⟩
              refine ih187 _ _ ?_ ?_ ?_ ?_
              · refine Rg.aJ g ?_ (by simp only [rlT]; first | with_reducible assumption | omega | exact Int64.toInt_le _ | (rw [Int64.toInt_ofInt_of_le (by omega) (by omega)]; omega) | grind); exact rτ187
              · refine Fr.aJ g ?_ (by decide); exact fτ187
              · first | exact ⟨MkI.fr (rm := rm) (K := [105]) (S := []) k1 (by repeat (first | exact Fr.rf | assumption | refine Fr.aJ g ?_ (by decide) | refine Fr.aI g ?_ (by decide) | refine Fr.sI g ?_ (by decide) | refine Fr.sJ g ?_ (by decide))) (by decide), by (try simp only [rII, rIJ, rIP, rJJ, rJI, rJP, rPP, rPI, rPJ, g1, g2, g3, g4, g5, g6, g7, g8, Nat.reduceEqDiff, Nat.reduceAdd, false_and, and_false, true_and, and_true, reduceIte, nZ0, nZ1, eτ187_38.1, eτ187_38.2, eτ187_39.1, eτ187_39.2, eτ187_40.1, eτ187_40.2, eτ187_42.1, eτ187_42.2, eτ187_43.1, eτ187_43.2, eτ187_68.1, eτ187_68.2, eτ187_70.1, eτ187_70.2, eτ187_71.1, eτ187_71.2, eτ187_72.1, eτ187_72.2, eτ187_73.1, eτ187_73.2, eτ187_74.1, eτ187_74.2, eτ187_75.1, eτ187_75.2, eτ187_76.1, eτ187_76.2, fun a k => (jτ187 a k).1, fun a k => (jτ187 a k).2]) <;> omega, by (try simp only [rII, rIJ, rIP, rJJ, rJI, rJP, rPP, rPI, rPJ, g1, g2, g3, g4, g5, g6, g7, g8, Nat.reduceEqDiff, Nat.reduceAdd, false_and, and_false, true_and, and_true, reduceIte, nZ0, nZ1, eτ187_38.1, eτ187_38.2, eτ187_39.1, eτ187_39.2, eτ187_40.1, eτ187_40.2, eτ187_42.1, eτ187_42.2, eτ187_43.1, eτ187_43.2, eτ187_68.1, eτ187_68.2, eτ187_70.1, eτ187_70.2, eτ187_71.1, eτ187_71.2, eτ187_72.1, eτ187_72.2, eτ187_73.1, eτ187_73.2, eτ187_74.1, eτ187_74.2, eτ187_75.1, eτ187_75.2, eτ187_76.1, eτ187_76.2, fun a k => (jτ187 a k).1, fun a k => (jτ187 a k).2]) <;> omega, by omega, by omega⟩ | exact ⟨MkI.add j1 (by omega) (by omega) (by (try simp only [rII, rIJ, rIP, rJJ, rJI, rJP, rPP, rPI, rPJ, g1, g2, g3, g4, g5, g6, g7, g8, Nat.reduceEqDiff, Nat.reduceAdd, false_and, and_false, true_and, and_true, reduceIte, nZ0, nZ1, eτ187_38.1, eτ187_38.2, eτ187_39.1, eτ187_39.2, eτ187_40.1, eτ187_40.2, eτ187_42.1, eτ187_42.2, eτ187_43.1, eτ187_43.2, eτ187_68.1, eτ187_68.2, eτ187_70.1, eτ187_70.2, eτ187_71.1, eτ187_71.2, eτ187_72.1, eτ187_72.2, eτ187_73.1, eτ187_73.2, eτ187_74.1, eτ187_74.2, eτ187_75.1, eτ187_75.2, eτ187_76.1, eτ187_76.2, fun a k => (jτ187 a k).1, fun a k => (jτ187 a k).2]) <;> omega) (by (try simp only [rII, rIJ, rIP, rJJ, rJI, rJP, rPP, rPI, rPJ, g1, g2, g3, g4, g5, g6, g7, g8, Nat.reduceEqDiff, Nat.reduceAdd, false_and, and_false, true_and, and_true, reduceIte, nZ0, nZ1, eτ187_38.1, eτ187_38.2, eτ187_39.1, eτ187_39.2, eτ187_40.1, eτ187_40.2, eτ187_42.1, eτ187_42.2, eτ187_43.1, eτ187_43.2, eτ187_68.1, eτ187_68.2, eτ187_70.1, eτ187_70.2, eτ187_71.1, eτ187_71.2, eτ187_72.1, eτ187_72.2, eτ187_73.1, eτ187_73.2, eτ187_74.1, eτ187_74.2, eτ187_75.1, eτ187_75.2, eτ187_76.1, eτ187_76.2, fun a k => (jτ187 a k).1, fun a k => (jτ187 a k).2]) <;> omega) (by funext a9; (try simp only [rII, rIJ, rIP, rJJ, rJI, rJP, rPP, rPI, rPJ, g1, g2, g3, g4, g5, g6, g7, g8, Nat.reduceEqDiff, Nat.reduceAdd, false_and, and_false, true_and, and_true, reduceIte, nZ0, nZ1, eτ187_38.1, eτ187_38.2, eτ187_39.1, eτ187_39.2, eτ187_40.1, eτ187_40.2, eτ187_42.1, eτ187_42.2, eτ187_43.1, eτ187_43.2, eτ187_68.1, eτ187_68.2, eτ187_70.1, eτ187_70.2, eτ187_71.1, eτ187_71.2, eτ187_72.1, eτ187_72.2, eτ187_73.1, eτ187_73.2, eτ187_74.1, eτ187_74.2, eτ187_75.1, eτ187_75.2, eτ187_76.1, eτ187_76.2, fun a k => (jτ187 a k).1, fun a k => (jτ187 a k).2]) <;> first | rfl | omega | grind) (by funext a9; (try simp only [rII, rIJ, rIP, rJJ, rJI, rJP, rPP, rPI, rPJ, g1, g2, g3, g4, g5, g6, g7, g8, Nat.reduceEqDiff, Nat.reduceAdd, false_and, and_false, true_and, and_true, reduceIte, nZ0, nZ1, eτ187_38.1, eτ187_38.2, eτ187_39.1, eτ187_39.2, eτ187_40.1, eτ187_40.2, eτ187_42.1, eτ187_42.2, eτ187_43.1, eτ187_43.2, eτ187_68.1, eτ187_68.2, eτ187_70.1, eτ187_70.2, eτ187_71.1, eτ187_71.2, eτ187_72.1, eτ187_72.2, eτ187_73.1, eτ187_73.2, eτ187_74.1, eτ187_74.2, eτ187_75.1, eτ187_75.2, eτ187_76.1, eτ187_76.2, fun a k => (jτ187 a k).1, fun a k => (jτ187 a k).2]) <;> first | rfl | omega | grind) (by intro i hi; (try simp only [rII, rIJ, rIP, rJJ, rJI, rJP, rPP, rPI, rPJ, g1, g2, g3, g4, g5, g6, g7, g8, Nat.reduceEqDiff, Nat.reduceAdd, false_and, and_false, true_and, and_true, reduceIte, nZ0, nZ1, eτ187_38.1, eτ187_38.2, eτ187_39.1, eτ187_39.2, eτ187_40.1, eτ187_40.2, eτ187_42.1, eτ187_42.2, eτ187_43.1, eτ187_43.2, eτ187_68.1, eτ187_68.2, eτ187_70.1, eτ187_70.2, eτ187_71.1, eτ187_71.2, eτ187_72.1, eτ187_72.2, eτ187_73.1, eτ187_73.2, eτ187_74.1, eτ187_74.2, eτ187_75.1, eτ187_75.2, eτ187_76.1, eτ187_76.2, fun a k => (jτ187 a k).1, fun a k => (jτ187 a k).2]) <;> rw [if_neg hi, if_neg hi, if_neg hi]; exact ⟨rfl, rfl, rfl⟩) (by unfold MkC; (try simp only [rII, rIJ, rIP, rJJ, rJI, rJP, rPP, rPI, rPJ, g1, g2, g3, g4, g5, g6, g7, g8, Nat.reduceEqDiff, Nat.reduceAdd, false_and, and_false, true_and, and_true, reduceIte, nZ0, nZ1, eτ187_38.1, eτ187_38.2, eτ187_39.1, eτ187_39.2, eτ187_40.1, eτ187_40.2, eτ187_42.1, eτ187_42.2, eτ187_43.1, eτ187_43.2, eτ187_68.1, eτ187_68.2, eτ187_70.1, eτ187_70.2, eτ187_71.1, eτ187_71.2, eτ187_72.1, eτ187_72.2, eτ187_73.1, eτ187_73.2, eτ187_74.1, eτ187_74.2, eτ187_75.1, eτ187_75.2, eτ187_76.1, eτ187_76.2, fun a k => (jτ187 a k).1, fun a k => (jτ187 a k).2]) <;> exact hmc), by (try simp only [rII, rIJ, rIP, rJJ, rJI, rJP, rPP, rPI, rPJ, g1, g2, g3, g4, g5, g6, g7, g8, Nat.reduceEqDiff, Nat.reduceAdd, false_and, and_false, true_and, and_true, reduceIte, nZ0, nZ1, eτ187_38.1, eτ187_38.2, eτ187_39.1, eτ187_39.2, eτ187_40.1, eτ187_40.2, eτ187_42.1, eτ187_42.2, eτ187_43.1, eτ187_43.2, eτ187_68.1, eτ187_68.2, eτ187_70.1, eτ187_70.2, eτ187_71.1, eτ187_71.2, eτ187_72.1, eτ187_72.2, eτ187_73.1, eτ187_73.2, eτ187_74.1, eτ187_74.2, eτ187_75.1, eτ187_75.2, eτ187_76.1, eτ187_76.2, fun a k => (jτ187 a k).1, fun a k => (jτ187 a k).2]) <;> omega, by (try simp only [rII, rIJ, rIP, rJJ, rJI, rJP, rPP, rPI, rPJ, g1, g2, g3, g4, g5, g6, g7, g8, Nat.reduceEqDiff, Nat.reduceAdd, false_and, and_false, true_and, and_true, reduceIte, nZ0, nZ1, eτ187_38.1, eτ187_38.2, eτ187_39.1, eτ187_39.2, eτ187_40.1, eτ187_40.2, eτ187_42.1, eτ187_42.2, eτ187_43.1, eτ187_43.2, eτ187_68.1, eτ187_68.2, eτ187_70.1, eτ187_70.2, eτ187_71.1, eτ187_71.2, eτ187_72.1, eτ187_72.2, eτ187_73.1, eτ187_73.2, eτ187_74.1, eτ187_74.2, eτ187_75.1, eτ187_75.2, eτ187_76.1, eτ187_76.2, fun a k => (jτ187 a k).1, fun a k => (jτ187 a k).2]) <;> omega, by omega, by omega⟩
              · (try simp only [rII, rIJ, rIP, rJJ, rJI, rJP, rPP, rPI, rPJ, g1, g2, g3, g4, g5, g6, g7, g8, Nat.reduceEqDiff, Nat.reduceAdd, false_and, and_false, true_and, and_true, reduceIte, nZ0, nZ1, eτ187_38.1, eτ187_38.2, eτ187_39.1, eτ187_39.2, eτ187_40.1, eτ187_40.2, eτ187_42.1, eτ187_42.2, eτ187_43.1, eτ187_43.2, eτ187_68.1, eτ187_68.2, eτ187_70.1, eτ187_70.2, eτ187_71.1, eτ187_71.2, eτ187_72.1, eτ187_72.2, eτ187_73.1, eτ187_73.2, eτ187_74.1, eτ187_74.2, eτ187_75.1, eτ187_75.2, eτ187_76.1, eτ187_76.2, fun a k => (jτ187 a k).1, fun a k => (jτ187 a k).2]) <;> (first | omega | with_reducible assumption | (unfold rng; omega) | (unfold rng; (repeat' split) <;> omega) | grind)
        refine ⟨_, L187 _ _ _ ?_ ?_ ?_ (Nat.lt_succ_self _)⟩
        · refine Rg.aI g ?_ (by simp only [rgT]; first | with_reducible exact nZ_rng _ | with_reducible exact nB_rng _ | with_reducible exact wr_rng _ | with_reducible exact i32any _ | (first | omega | with_reducible assumption | (unfold rng; omega) | (unfold rng; (repeat' split) <;> omega) | grind)); refine Rg.aJ g ?_ (by simp only [rlT]; first | with_reducible assumption | omega | exact Int64.toInt_le _ | (rw [Int64.toInt_ofInt_of_le (by omega) (by omega)]; omega) | grind); refine Rg.aJ g ?_ (by simp only [rlT]; first | with_reducible assumption | omega | exact Int64.toInt_le _ | (rw [Int64.toInt_ofInt_of_le (by omega) (by omega)]; omega) | grind); refine Rg.aJ g ?_ (by simp only [rlT]; first | with_reducible assumption | omega | exact Int64.toInt_le _ | (rw [Int64.toInt_ofInt_of_le (by omega) (by omega)]; omega) | grind); refine Rg.aI g ?_ (by simp only [rgT]; first | with_reducible exact nZ_rng _ | with_reducible exact nB_rng _ | with_reducible exact wr_rng _ | with_reducible exact i32any _ | (first | omega | with_reducible assumption | (unfold rng; omega) | (unfold rng; (repeat' split) <;> omega) | grind)); refine Rg.aI g ?_ (by simp only [rgT]; first | with_reducible exact nZ_rng _ | with_reducible exact nB_rng _ | with_reducible exact wr_rng _ | with_reducible exact i32any _ | (first | omega | with_reducible assumption | (unfold rng; omega) | (unfold rng; (repeat' split) <;> omega) | grind)); refine Rg.aI g ?_ (by simp only [rgT]; first | with_reducible exact nZ_rng _ | with_reducible exact nB_rng _ | with_reducible exact wr_rng _ | with_reducible exact i32any _ | (first | omega | with_reducible assumption | (unfold rng; omega) | (unfold rng; (repeat' split) <;> omega) | grind)); refine Rg.aI g ?_ (by simp only [rgT]; first | with_reducible exact nZ_rng _ | with_reducible exact nB_rng _ | with_reducible exact wr_rng _ | with_reducible exact i32any _ | (first | omega | with_reducible assumption | (unfold rng; omega) | (unfold rng; (repeat' split) <;> omega) | grind)); exact rτ65
        · refine Fr.aI g ?_ (by decide); refine Fr.aJ g ?_ (by decide); refine Fr.aJ g ?_ (by decide); refine Fr.aJ g ?_ (by decide); refine Fr.aI g ?_ (by decide); refine Fr.aI g ?_ (by decide); refine Fr.aI g ?_ (by decide); refine Fr.aI g ?_ (by decide); exact fτ65
        · first | exact ⟨MkI.fr (rm := rm) (K := [105]) (S := []) k1 (by repeat (first | exact Fr.rf | assumption | refine Fr.aJ g ?_ (by decide) | refine Fr.aI g ?_ (by decide) | refine Fr.sI g ?_ (by decide) | refine Fr.sJ g ?_ (by decide))) (by decide), by (try simp only [rII, rIJ, rIP, rJJ, rJI, rJP, rPP, rPI, rPJ, g1, g2, g3, g4, g5, g6, g7, g8, Nat.reduceEqDiff, Nat.reduceAdd, false_and, and_false, true_and, and_true, reduceIte, nZ0, nZ1, eτ65_38.1, eτ65_38.2, eτ65_39.1, eτ65_39.2, eτ65_40.1, eτ65_40.2, eτ65_42.1, eτ65_42.2, eτ65_43.1, eτ65_43.2, eτ65_68.1, eτ65_68.2, eτ65_70.1, eτ65_70.2, eτ65_71.1, eτ65_71.2, eτ65_72.1, eτ65_72.2, eτ65_73.1, eτ65_73.2, eτ65_74.1, eτ65_74.2, eτ65_75.1, eτ65_75.2, eτ65_76.1, eτ65_76.2, fun a k => (jτ65 a k).1, fun a k => (jτ65 a k).2]) <;> omega, by (try simp only [rII, rIJ, rIP, rJJ, rJI, rJP, rPP, rPI, rPJ, g1, g2, g3, g4, g5, g6, g7, g8, Nat.reduceEqDiff, Nat.reduceAdd, false_and, and_false, true_and, and_true, reduceIte, nZ0, nZ1, eτ65_38.1, eτ65_38.2, eτ65_39.1, eτ65_39.2, eτ65_40.1, eτ65_40.2, eτ65_42.1, eτ65_42.2, eτ65_43.1, eτ65_43.2, eτ65_68.1, eτ65_68.2, eτ65_70.1, eτ65_70.2, eτ65_71.1, eτ65_71.2, eτ65_72.1, eτ65_72.2, eτ65_73.1, eτ65_73.2, eτ65_74.1, eτ65_74.2, eτ65_75.1, eτ65_75.2, eτ65_76.1, eτ65_76.2, fun a k => (jτ65 a k).1, fun a k => (jτ65 a k).2]) <;> omega, by omega, by omega⟩ | exact ⟨MkI.add j1 (by omega) (by omega) (by (try simp only [rII, rIJ, rIP, rJJ, rJI, rJP, rPP, rPI, rPJ, g1, g2, g3, g4, g5, g6, g7, g8, Nat.reduceEqDiff, Nat.reduceAdd, false_and, and_false, true_and, and_true, reduceIte, nZ0, nZ1, eτ65_38.1, eτ65_38.2, eτ65_39.1, eτ65_39.2, eτ65_40.1, eτ65_40.2, eτ65_42.1, eτ65_42.2, eτ65_43.1, eτ65_43.2, eτ65_68.1, eτ65_68.2, eτ65_70.1, eτ65_70.2, eτ65_71.1, eτ65_71.2, eτ65_72.1, eτ65_72.2, eτ65_73.1, eτ65_73.2, eτ65_74.1, eτ65_74.2, eτ65_75.1, eτ65_75.2, eτ65_76.1, eτ65_76.2, fun a k => (jτ65 a k).1, fun a k => (jτ65 a k).2]) <;> omega) (by (try simp only [rII, rIJ, rIP, rJJ, rJI, rJP, rPP, rPI, rPJ, g1, g2, g3, g4, g5, g6, g7, g8, Nat.reduceEqDiff, Nat.reduceAdd, false_and, and_false, true_and, and_true, reduceIte, nZ0, nZ1, eτ65_38.1, eτ65_38.2, eτ65_39.1, eτ65_39.2, eτ65_40.1, eτ65_40.2, eτ65_42.1, eτ65_42.2, eτ65_43.1, eτ65_43.2, eτ65_68.1, eτ65_68.2, eτ65_70.1, eτ65_70.2, eτ65_71.1, eτ65_71.2, eτ65_72.1, eτ65_72.2, eτ65_73.1, eτ65_73.2, eτ65_74.1, eτ65_74.2, eτ65_75.1, eτ65_75.2, eτ65_76.1, eτ65_76.2, fun a k => (jτ65 a k).1, fun a k => (jτ65 a k).2]) <;> omega) (by funext a9; (try simp only [rII, rIJ, rIP, rJJ, rJI, rJP, rPP, rPI, rPJ, g1, g2, g3, g4, g5, g6, g7, g8, Nat.reduceEqDiff, Nat.reduceAdd, false_and, and_false, true_and, and_true, reduceIte, nZ0, nZ1, eτ65_38.1, eτ65_38.2, eτ65_39.1, eτ65_39.2, eτ65_40.1, eτ65_40.2, eτ65_42.1, eτ65_42.2, eτ65_43.1, eτ65_43.2, eτ65_68.1, eτ65_68.2, eτ65_70.1, eτ65_70.2, eτ65_71.1, eτ65_71.2, eτ65_72.1, eτ65_72.2, eτ65_73.1, eτ65_73.2, eτ65_74.1, eτ65_74.2, eτ65_75.1, eτ65_75.2, eτ65_76.1, eτ65_76.2, fun a k => (jτ65 a k).1, fun a k => (jτ65 a k).2]) <;> first | rfl | omega | grind) (by funext a9; (try simp only [rII, rIJ, rIP, rJJ, rJI, rJP, rPP, rPI, rPJ, g1, g2, g3, g4, g5, g6, g7, g8, Nat.reduceEqDiff, Nat.reduceAdd, false_and, and_false, true_and, and_true, reduceIte, nZ0, nZ1, eτ65_38.1, eτ65_38.2, eτ65_39.1, eτ65_39.2, eτ65_40.1, eτ65_40.2, eτ65_42.1, eτ65_42.2, eτ65_43.1, eτ65_43.2, eτ65_68.1, eτ65_68.2, eτ65_70.1, eτ65_70.2, eτ65_71.1, eτ65_71.2, eτ65_72.1, eτ65_72.2, eτ65_73.1, eτ65_73.2, eτ65_74.1, eτ65_74.2, eτ65_75.1, eτ65_75.2, eτ65_76.1, eτ65_76.2, fun a k => (jτ65 a k).1, fun a k => (jτ65 a k).2]) <;> first | rfl | omega | grind) (by intro i hi; (try simp only [rII, rIJ, rIP, rJJ, rJI, rJP, rPP, rPI, rPJ, g1, g2, g3, g4, g5, g6, g7, g8, Nat.reduceEqDiff, Nat.reduceAdd, false_and, and_false, true_and, and_true, reduceIte, nZ0, nZ1, eτ65_38.1, eτ65_38.2, eτ65_39.1, eτ65_39.2, eτ65_40.1, eτ65_40.2, eτ65_42.1, eτ65_42.2, eτ65_43.1, eτ65_43.2, eτ65_68.1, eτ65_68.2, eτ65_70.1, eτ65_70.2, eτ65_71.1, eτ65_71.2, eτ65_72.1, eτ65_72.2, eτ65_73.1, eτ65_73.2, eτ65_74.1, eτ65_74.2, eτ65_75.1, eτ65_75.2, eτ65_76.1, eτ65_76.2, fun a k => (jτ65 a k).1, fun a k => (jτ65 a k).2]) <;> rw [if_neg hi, if_neg hi, if_neg hi]; exact ⟨rfl, rfl, rfl⟩) (by unfold MkC; (try simp only [rII, rIJ, rIP, rJJ, rJI, rJP, rPP, rPI, rPJ, g1, g2, g3, g4, g5, g6, g7, g8, Nat.reduceEqDiff, Nat.reduceAdd, false_and, and_false, true_and, and_true, reduceIte, nZ0, nZ1, eτ65_38.1, eτ65_38.2, eτ65_39.1, eτ65_39.2, eτ65_40.1, eτ65_40.2, eτ65_42.1, eτ65_42.2, eτ65_43.1, eτ65_43.2, eτ65_68.1, eτ65_68.2, eτ65_70.1, eτ65_70.2, eτ65_71.1, eτ65_71.2, eτ65_72.1, eτ65_72.2, eτ65_73.1, eτ65_73.2, eτ65_74.1, eτ65_74.2, eτ65_75.1, eτ65_75.2, eτ65_76.1, eτ65_76.2, fun a k => (jτ65 a k).1, fun a k => (jτ65 a k).2]) <;> exact hmc), by (try simp only [rII, rIJ, rIP, rJJ, rJI, rJP, rPP, rPI, rPJ, g1, g2, g3, g4, g5, g6, g7, g8, Nat.reduceEqDiff, Nat.reduceAdd, false_and, and_false, true_and, and_true, reduceIte, nZ0, nZ1, eτ65_38.1, eτ65_38.2, eτ65_39.1, eτ65_39.2, eτ65_40.1, eτ65_40.2, eτ65_42.1, eτ65_42.2, eτ65_43.1, eτ65_43.2, eτ65_68.1, eτ65_68.2, eτ65_70.1, eτ65_70.2, eτ65_71.1, eτ65_71.2, eτ65_72.1, eτ65_72.2, eτ65_73.1, eτ65_73.2, eτ65_74.1, eτ65_74.2, eτ65_75.1, eτ65_75.2, eτ65_76.1, eτ65_76.2, fun a k => (jτ65 a k).1, fun a k => (jτ65 a k).2]) <;> omega, by (try simp only [rII, rIJ, rIP, rJJ, rJI, rJP, rPP, rPI, rPJ, g1, g2, g3, g4, g5, g6, g7, g8, Nat.reduceEqDiff, Nat.reduceAdd, false_and, and_false, true_and, and_true, reduceIte, nZ0, nZ1, eτ65_38.1, eτ65_38.2, eτ65_39.1, eτ65_39.2, eτ65_40.1, eτ65_40.2, eτ65_42.1, eτ65_42.2, eτ65_43.1, eτ65_43.2, eτ65_68.1, eτ65_68.2, eτ65_70.1, eτ65_70.2, eτ65_71.1, eτ65_71.2, eτ65_72.1, eτ65_72.2, eτ65_73.1, eτ65_73.2, eτ65_74.1, eτ65_74.2, eτ65_75.1, eτ65_75.2, eτ65_76.1, eτ65_76.2, fun a k => (jτ65 a k).1, fun a k => (jτ65 a k).2]) <;> omega, by omega, by omega⟩
  refine ⟨_, L65 _ _ _ ?_ ?_ ?_ (Nat.lt_succ_self _)⟩
  · refine Rg.aJ g ?_ (by simp only [rlT]; first | with_reducible assumption | omega | exact Int64.toInt_le _ | (rw [Int64.toInt_ofInt_of_le (by omega) (by omega)]; omega) | grind); refine Rg.aI g ?_ (by simp only [rgT]; first | with_reducible exact nZ_rng _ | with_reducible exact nB_rng _ | with_reducible exact wr_rng _ | with_reducible exact i32any _ | (first | omega | with_reducible assumption | (unfold rng; omega) | (unfold rng; (repeat' split) <;> omega) | grind)); refine Rg.aI g ?_ (by simp only [rgT]; first | with_reducible exact nZ_rng _ | with_reducible exact nB_rng _ | with_reducible exact wr_rng _ | with_reducible exact i32any _ | (first | omega | with_reducible assumption | (unfold rng; omega) | (unfold rng; (repeat' split) <;> omega) | grind)); exact rσ
  · refine Fr.aJ g ?_ (by decide); refine Fr.aI g ?_ (by decide); refine Fr.aI g ?_ (by decide); exact fσ
  · first | exact ⟨⟨k1, by omega⟩, by omega⟩ | exact ⟨⟨MkI.fr (rm := rm) (K := [107, 108, 109]) (S := []) hmk (by repeat (first | exact Fr.rf | assumption | refine Fr.aJ g ?_ (by decide) | refine Fr.aI g ?_ (by decide) | refine Fr.sI g ?_ (by decide) | refine Fr.sJ g ?_ (by decide))) (by decide), by (try simp only [rII, rIJ, rIP, rJJ, rJI, rJP, rPP, rPI, rPJ, g1, g2, g3, g4, g5, g6, g7, g8, Nat.reduceEqDiff, Nat.reduceAdd, false_and, and_false, true_and, and_true, reduceIte, nZ0, nZ1])⟩, by (try simp only [rII, rIJ, rIP, rJJ, rJI, rJP, rPP, rPI, rPJ, g1, g2, g3, g4, g5, g6, g7, g8, Nat.reduceEqDiff, Nat.reduceAdd, false_and, and_false, true_and, and_true, reduceIte, nZ0, nZ1]) <;> omega⟩
set_option maxHeartbeats 8000000 in
theorem s_X16_seal {ra : Nat → Nat} {jx : Nat → Nat → Nat} {rm : Nat} {ja : Nat} (g : Geo ra jx rm) {σ : Sg} (rσ : Rg ra jx rm σ) (hj : gP σ rm 17 = some ja) (hja : ja = ra 15 ∨ ja = ra 16) (hmk : MkI ra jx ja σ) (hhe : HeE ra rm σ) (hco : cO jx ja σ (gI σ ja 0) = gI σ ja 1 ∧ gI σ ja 1 ≤ 4 ∧ 1 ≤ gI σ ja 0 ∧ gI σ ja 0 ≤ 16) {Q : Sg → Unit → Prop} {X : Sg → String → Prop} (hQ : ∀ (σ' : Sg) (r : Unit), Rg ra jx rm σ' → Fr ra jx rm [44, 86, 87, 88, 89, 97, 98, 99, 100, 101, 102, 103, 104, 105, 106, 107, 108, 109] [92, 93] σ σ' → (MkI ra jx ja σ' ∧ HeE ra rm σ') → Q σ' r) : wp_X16_seal ra jx rm σ Q X := by
  obtain ⟨g1, g2, g3, g4, g5, g6, g7, g8⟩ := id g
  have fσ : Fr ra jx rm [44, 86, 87, 88, 89, 97, 98, 99, 100, 101, 102, 103, 104, 105, 106, 107, 108, 109] [92, 93] σ σ := Fr.rf
  have hb1 := rσ.1 98 1; simp only [rgT] at hb1
  have c0 := (cO_mono (jx := jx) (ja := ja) (σ := σ) (n := gI σ ja 0) (m := gI σ ja 0) (by omega) (by omega)).1
  unfold wp_X16_seal
  unfold w_X16_seal_0
  try simp only [forall_eq, rII, rIJ, rIP, rJJ, rJI, rJP, rPP, rPI, rPJ, g1, g2, g3, g4, g5, g6, g7, g8, Nat.reduceEqDiff, Nat.reduceAdd, false_and, and_false, true_and, and_true, reduceIte, nZ0, nZ1]
  have q1 := rσ.2.1 93; simp only [rgS] at q1
  have q2 := rσ.1 97 1; simp only [rgT] at q2
  have q3 := rσ.1 98 1; simp only [rgT] at q3
  have L39 : ∀ (fu39 : Nat) (τ39 : Sg) (v1 : Int), Rg ra jx rm τ39 → Fr ra jx rm [44, 86, 87, 88, 89, 97, 98, 99, 100, 101, 102, 103, 104, 105, 106, 107, 108, 109] [92, 93] σ τ39 → ((∀ i : Nat, (i : Int) < v1 → MkC ra jx ja τ39 i) ∧ (∀ i : Nat, (i : Int) < gI σ (ra 98) 1 → MkC ra jx ja τ39 (4000 + i)) ∧ gI τ39 (ra 98) 0 = gI σ (ra 98) 1 ∧ gI τ39 (ra 98) 1 = gI σ (ra 98) 1 ∧ HeE ra rm τ39 ∧ 0 ≤ v1 ∧ v1 ≤ gI σ (ra 98) 1) → ((gI σ (ra 98) 1 - v1).toNat) < fu39 → wl_X16_seal_39 ra jx rm Q X fu39 τ39 v1 := by
    intro fu39
    induction fu39 with
    | zero => intro τ39 _ _ _ _ h9; omega
    | succ fu39 ih39 =>
      intro τ39 v1 rτ39 fτ39 hi39 hm39
      unfold wl_X16_seal_39
      have jτ39 := fτ39.2.2.1
      have pτ39 := fτ39.2.2.2
      have obτ39 := Fr.ob fτ39 hja (by decide)
      unfold w_X16_seal_39
      try simp only [forall_eq, rII, rIJ, rIP, rJJ, rJI, rJP, rPP, rPI, rPJ, g1, g2, g3, g4, g5, g6, g7, g8, Nat.reduceEqDiff, Nat.reduceAdd, false_and, and_false, true_and, and_true, reduceIte, nZ0, nZ1, fun a k => (jτ39 a k).1, fun a k => (jτ39 a k).2, pτ39, obτ39]
      obtain ⟨a1, a2, a3, a4, a5, a6, a7⟩ := hi39
      have q4 := rτ39.1 98 0; simp only [rgT] at q4
      split
      · rename_i hc46
        skip
        unfold w_X16_seal_181
        try simp only [forall_eq, rII, rIJ, rIP, rJJ, rJI, rJP, rPP, rPI, rPJ, g1, g2, g3, g4, g5, g6, g7, g8, Nat.reduceEqDiff, Nat.reduceAdd, false_and, and_false, true_and, and_true, reduceIte, nZ0, nZ1, fun a k => (jτ39 a k).1, fun a k => (jτ39 a k).2, pτ39, obτ39]
        have L183 : ∀ (fu183 : Nat) (τ183 : Sg) (v1 : Int), Rg ra jx rm τ183 → Fr ra jx rm [44, 86, 87, 88, 89, 97, 98, 99, 100, 101, 102, 103, 104, 105, 106, 107, 108, 109] [92, 93] σ τ183 → (MkI ra jx ja τ183 ∧ HeE ra rm τ183 ∧ 0 ≤ v1 ∧ v1 ≤ 64) → ((64 - v1).toNat) < fu183 → wl_X16_seal_183 ra jx rm Q X fu183 τ183 v1 := by
          intro fu183
          induction fu183 with
          | zero => intro τ183 _ _ _ _ h9; omega
          | succ fu183 ih183 =>
            intro τ183 v1 rτ183 fτ183 hi183 hm183
            unfold wl_X16_seal_183
            have jτ183 := fτ183.2.2.1
            have pτ183 := fτ183.2.2.2
            have obτ183 := Fr.ob fτ183 hja (by decide)
            unfold w_X16_seal_183
            try simp only [forall_eq, rII, rIJ, rIP, rJJ, rJI, rJP, rPP, rPI, rPJ, g1, g2, g3, g4, g5, g6, g7, g8, Nat.reduceEqDiff, Nat.reduceAdd, false_and, and_false, true_and, and_true, reduceIte, nZ0, nZ1, fun a k => (jτ183 a k).1, fun a k => (jτ183 a k).2, pτ183, obτ183]
            obtain ⟨m1, m2, m3, m4⟩ := hi183
            have t09 := rτ183.2.2.2 109 (64 + v1).toNat; simp only [rlT] at t09
            split
            · rename_i hc186
              skip
              unfold w_X16_seal_240
              try simp only [forall_eq, rII, rIJ, rIP, rJJ, rJI, rJP, rPP, rPI, rPJ, g1, g2, g3, g4, g5, g6, g7, g8, Nat.reduceEqDiff, Nat.reduceAdd, false_and, and_false, true_and, and_true, reduceIte, nZ0, nZ1, fun a k => (jτ183 a k).1, fun a k => (jτ183 a k).2, pτ183, obτ183]
              have L242 : ∀ (fu242 : Nat) (τ242 : Sg) (v1 : Int), Rg ra jx rm τ242 → Fr ra jx rm [44, 86, 87, 88, 89, 97, 98, 99, 100, 101, 102, 103, 104, 105, 106, 107, 108, 109] [92, 93] σ τ242 → (MkI ra jx ja τ242 ∧ HeE ra rm τ242 ∧ 0 ≤ v1 ∧ v1 ≤ 64) → ((64 - v1).toNat) < fu242 → wl_X16_seal_242 ra jx rm Q X fu242 τ242 v1 := by
                intro fu242
                induction fu242 with
                | zero => intro τ242 _ _ _ _ h9; omega
                | succ fu242 ih242 =>
                  intro τ242 v1 rτ242 fτ242 hi242 hm242
                  unfold wl_X16_seal_242
                  have jτ242 := fτ242.2.2.1
                  have pτ242 := fτ242.2.2.2
                  have obτ242 := Fr.ob fτ242 hja (by decide)
                  unfold w_X16_seal_242
                  try simp only [forall_eq, rII, rIJ, rIP, rJJ, rJI, rJP, rPP, rPI, rPJ, g1, g2, g3, g4, g5, g6, g7, g8, Nat.reduceEqDiff, Nat.reduceAdd, false_and, and_false, true_and, and_true, reduceIte, nZ0, nZ1, fun a k => (jτ242 a k).1, fun a k => (jτ242 a k).2, pτ242, obτ242]
                  obtain ⟨m1, m2, m3, m4⟩ := hi242
                  split
                  · rename_i hc245
                    skip
                    unfold w_X16_seal_261
                    try simp only [forall_eq, rII, rIJ, rIP, rJJ, rJI, rJP, rPP, rPI, rPJ, g1, g2, g3, g4, g5, g6, g7, g8, Nat.reduceEqDiff, Nat.reduceAdd, false_and, and_false, true_and, and_true, reduceIte, nZ0, nZ1, fun a k => (jτ242 a k).1, fun a k => (jτ242 a k).2, pτ242, obτ242]
                    have L263 : ∀ (fu263 : Nat) (τ263 : Sg) (v1 : Int), Rg ra jx rm τ263 → Fr ra jx rm [44, 86, 87, 88, 89, 97, 98, 99, 100, 101, 102, 103, 104, 105, 106, 107, 108, 109] [92, 93] σ τ263 → (MkI ra jx ja τ263 ∧ HeE ra rm τ263 ∧ 0 ≤ v1 ∧ v1 ≤ gI σ ja 1) → ((gI σ ja 1 - v1).toNat) < fu263 → wl_X16_seal_263 ra jx rm Q X fu263 τ263 v1 := by
                      intro fu263
                      induction fu263 with
                      | zero => intro τ263 _ _ _ _ h9; omega
                      | succ fu263 ih263 =>
                        intro τ263 v1 rτ263 fτ263 hi263 hm263
                        unfold wl_X16_seal_263
                        have jτ263 := fτ263.2.2.1
                        have pτ263 := fτ263.2.2.2
                        have obτ263 := Fr.ob fτ263 hja (by decide)
                        unfold w_X16_seal_263
                        try simp only [forall_eq, rII, rIJ, rIP, rJJ, rJI, rJP, rPP, rPI, rPJ, g1, g2, g3, g4, g5, g6, g7, g8, Nat.reduceEqDiff, Nat.reduceAdd, false_and, and_false, true_and, and_true, reduceIte, nZ0, nZ1, fun a k => (jτ263 a k).1, fun a k => (jτ263 a k).2, pτ263, obτ263]
                        obtain ⟨m1, m2, m3, m4⟩ := hi263
                        have o263 := congrFun obτ263 1
                        refine ⟨ja, by exact hj, hja, ?_⟩
                        split
                        · rename_i hc271
                          skip
                          unfold w_X16_seal_285
                          try simp only [forall_eq, rII, rIJ, rIP, rJJ, rJI, rJP, rPP, rPI, rPJ, g1, g2, g3, g4, g5, g6, g7, g8, Nat.reduceEqDiff, Nat.reduceAdd, false_and, and_false, true_and, and_true, reduceIte, nZ0, nZ1, fun a k => (jτ263 a k).1, fun a k => (jτ263 a k).2, pτ263, obτ263]
                          refine hQ _ _ ?_ ?_ ?_
                          · exact rτ263
                          · exact fτ263
                          · exact ⟨m1, m2⟩
                        · rename_i hc271
                          skip
                          unfold w_X16_seal_274
                          try simp only [forall_eq, rII, rIJ, rIP, rJJ, rJI, rJP, rPP, rPI, rPJ, g1, g2, g3, g4, g5, g6, g7, g8, Nat.reduceEqDiff, Nat.reduceAdd, false_and, and_false, true_and, and_true, reduceIte, nZ0, nZ1, fun a k => (jτ263 a k).1, fun a k => (jτ263 a k).2, pτ263, obτ263]
                          refine s_X16_show g rτ263 (by first | exact hj | (rw [fτ263.2.2.2]; exact hj)) hja m2 (by unfold cO; (try simp only [rII, rIJ, rIP, rJJ, rJI, rJP, rPP, rPI, rPJ, g1, g2, g3, g4, g5, g6, g7, g8, Nat.reduceEqDiff, Nat.reduceAdd, false_and, and_false, true_and, and_true, reduceIte, nZ0, nZ1, fun a k => (jτ263 a k).1, fun a k => (jτ263 a k).2, pτ263, obτ263]) <;> exact hco) (by (try simp only [rII, rIJ, rIP, rJJ, rJI, rJP, rPP, rPI, rPJ, g1, g2, g3, g4, g5, g6, g7, g8, Nat.reduceEqDiff, Nat.reduceAdd, false_and, and_false, true_and, and_true, reduceIte, nZ0, nZ1, fun a k => (jτ263 a k).1, fun a k => (jτ263 a k).2, pτ263, obτ263]) <;> (first | omega | with_reducible assumption | (unfold rng; omega) | (unfold rng; (repeat' split) <;> omega) | grind)) (fun σ42 _ rσ42 fc p6 => ?_)
                          have fσ42 : Fr ra jx rm [44, 86, 87, 88, 89, 97, 98, 99, 100, 101, 102, 103, 104, 105, 106, 107, 108, 109] [92, 93] σ σ42 := Fr.tr fτ263 (Fr.mor (fc) (by decide) (by decide))
                          have s1 := MkI.fr m1 fc (by decide)
                          have s2 := p6
                          have jσ42 := fσ42.2.2.1
                          have pσ42 := fσ42.2.2.2
                          have obσ42 := Fr.ob fσ42 hja (by decide)
                          try simp only [forall_eq, rII, rIJ, rIP, rJJ, rJI, rJP, rPP, rPI, rPJ, g1, g2, g3, g4, g5, g6, g7, g8, Nat.reduceEqDiff, Nat.reduceAdd, false_and, and_false, true_and, and_true, reduceIte, nZ0, nZ1, fun a k => (jσ42 a k).1, fun a k => (jσ42 a k).2, pσ42, obσ42]
                          refine ⟨by (first | omega | with_reducible assumption | (unfold rng; omega) | (unfold rng; (repeat' split) <;> omega) | grind), ?_⟩
                          refine ih263 _ _ ?_ ?_ ?_ ?_
                          · exact rσ42
                          · exact fσ42
                          · first | exact ⟨s1, s2, by omega, by omega⟩ | exact ⟨m1, m2, by omega, by omega⟩
                          · (try simp only [rII, rIJ, rIP, rJJ, rJI, rJP, rPP, rPI, rPJ, g1, g2, g3, g4, g5, g6, g7, g8, Nat.reduceEqDiff, Nat.reduceAdd, false_and, and_false, true_and, and_true, reduceIte, nZ0, nZ1, fun a k => (jσ42 a k).1, fun a k => (jσ42 a k).2, pσ42, obσ42]) <;> (first | omega | with_reducible assumption | (unfold rng; omega) | (unfold rng; (repeat' split) <;> omega) | grind)
                    refine ⟨_, L263 _ _ _ ?_ ?_ ?_ (Nat.lt_succ_self _)⟩
                    · exact rτ242
                    · exact fτ242
                    · first | exact ⟨s1, s2, by omega, by omega⟩ | exact ⟨m1, m2, by omega, by omega⟩
                  · rename_i hc245
                    skip
                    unfold w_X16_seal_248
                    try simp only [forall_eq, rII, rIJ, rIP, rJJ, rJI, rJP, rPP, rPI, rPJ, g1, g2, g3, g4, g5, g6, g7, g8, Nat.reduceEqDiff, Nat.reduceAdd, false_and, and_false, true_and, and_true, reduceIte, nZ0, nZ1, fun a k => (jτ242 a k).1, fun a k => (jτ242 a k).2, pτ242, obτ242]
                    refine ⟨by (first | omega | with_reducible assumption | (unfold rng; omega) | (unfold rng; (repeat' split) <;> omega) | grind), ?_⟩
                    refine ⟨by (first | omega | with_reducible assumption | (unfold rng; omega) | (unfold rng; (repeat' split) <;> omega) | grind), ?_⟩
                    refine ih242 _ _ ?_ ?_ ?_ ?_
                    · refine Rg.aI g ?_ (by simp only [rgT]; first | with_reducible exact nZ_rng _ | with_reducible exact nB_rng _ | with_reducible exact wr_rng _ | with_reducible exact i32any _ | (first | omega | with_reducible assumption | (unfold rng; omega) | (unfold rng; (repeat' split) <;> omega) | grind)); exact rτ242
                    · refine Fr.aI g ?_ (by decide); exact fτ242
                    · first | exact ⟨MkI.fr (rm := rm) (K := [44]) (S := []) m1 (by repeat (first | exact Fr.rf | assumption | refine Fr.aJ g ?_ (by decide) | refine Fr.aI g ?_ (by decide) | refine Fr.sI g ?_ (by decide) | refine Fr.sJ g ?_ (by decide))) (by decide), HeE.fr (jx := jx) (K := [44]) (S := []) m2 (by repeat (first | exact Fr.rf | assumption | refine Fr.aJ g ?_ (by decide) | refine Fr.aI g ?_ (by decide) | refine Fr.sI g ?_ (by decide) | refine Fr.sJ g ?_ (by decide))) (by decide) (by decide), by omega, by omega⟩ | exact ⟨m1, m2, by omega, by omega⟩
                    · (try simp only [rII, rIJ, rIP, rJJ, rJI, rJP, rPP, rPI, rPJ, g1, g2, g3, g4, g5, g6, g7, g8, Nat.reduceEqDiff, Nat.reduceAdd, false_and, and_false, true_and, and_true, reduceIte, nZ0, nZ1, fun a k => (jτ242 a k).1, fun a k => (jτ242 a k).2, pτ242, obτ242]) <;> (first | omega | with_reducible assumption | (unfold rng; omega) | (unfold rng; (repeat' split) <;> omega) | grind)
              refine ⟨_, L242 _ _ _ ?_ ?_ ?_ (Nat.lt_succ_self _)⟩
              · exact rτ183
              · exact fτ183
              · first | exact ⟨MkI.fr (rm := rm) (K := [44]) (S := []) m1 (by repeat (first | exact Fr.rf | assumption | refine Fr.aJ g ?_ (by decide) | refine Fr.aI g ?_ (by decide) | refine Fr.sI g ?_ (by decide) | refine Fr.sJ g ?_ (by decide))) (by decide), HeE.fr (jx := jx) (K := [44]) (S := []) m2 (by repeat (first | exact Fr.rf | assumption | refine Fr.aJ g ?_ (by decide) | refine Fr.aI g ?_ (by decide) | refine Fr.sI g ?_ (by decide) | refine Fr.sJ g ?_ (by decide))) (by decide) (by decide), by omega, by omega⟩ | exact ⟨m1, m2, by omega, by omega⟩
            · rename_i hc186
              skip
              unfold w_X16_seal_189
              try simp only [forall_eq, rII, rIJ, rIP, rJJ, rJI, rJP, rPP, rPI, rPJ, g1, g2, g3, g4, g5, g6, g7, g8, Nat.reduceEqDiff, Nat.reduceAdd, false_and, and_false, true_and, and_true, reduceIte, nZ0, nZ1, fun a k => (jτ183 a k).1, fun a k => (jτ183 a k).2, pτ183, obτ183]
              refine ⟨by (first | omega | with_reducible assumption | (unfold rng; omega) | (unfold rng; (repeat' split) <;> omega) | grind), ?_⟩
              refine ⟨by (first | omega | with_reducible assumption | (unfold rng; omega) | (unfold rng; (repeat' split) <;> omega) | grind), ?_⟩
              refine ⟨by (first | omega | with_reducible assumption | (unfold rng; omega) | (unfold rng; (repeat' split) <;> omega) | grind), ?_⟩
              have q7 := rτ183.1 107 ((64 + v1).toNat); simp only [rgT] at q7
              refine ⟨by (first | omega | with_reducible assumption | (unfold rng; omega) | (unfold rng; (repeat' split) <;> omega) | grind), ?_⟩
              refine ⟨by (first | omega | with_reducible assumption | (unfold rng; omega) | (unfold rng; (repeat' split) <;> omega) | grind), ?_⟩
              refine ⟨by (first | omega | with_reducible assumption | (unfold rng; omega) | (unfold rng; (repeat' split) <;> omega) | grind), ?_⟩
              have q8 := rτ183.1 108 ((64 + v1).toNat); simp only [rgT] at q8
              refine ⟨by (first | omega | with_reducible assumption | (unfold rng; omega) | (unfold rng; (repeat' split) <;> omega) | grind), ?_⟩
              refine ⟨by (first | omega | with_reducible assumption | (unfold rng; omega) | (unfold rng; (repeat' split) <;> omega) | grind), ?_⟩
              refine ⟨by (first | omega | with_reducible assumption | (unfold rng; omega) | (unfold rng; (repeat' split) <;> omega) | grind), ?_⟩
              refine ⟨by (first | omega | with_reducible assumption | (unfold rng; omega) | (unfold rng; (repeat' split) <;> omega) | grind), ?_⟩
              refine ih183 _ _ ?_ ?_ ?_ ?_
              · refine Rg.aJ g ?_ (by simp only [rlT]; first | with_reducible assumption | omega | exact Int64.toInt_le _ | (rw [Int64.toInt_ofInt_of_le (by omega) (by omega)]; omega) | grind); refine Rg.aI g ?_ (by simp only [rgT]; first | with_reducible exact nZ_rng _ | with_reducible exact nB_rng _ | with_reducible exact wr_rng _ | with_reducible exact i32any _ | (first | omega | with_reducible assumption | (unfold rng; omega) | (unfold rng; (repeat' split) <;> omega) | grind)); refine Rg.aI g ?_ (by simp only [rgT]; first | with_reducible exact nZ_rng _ | with_reducible exact nB_rng _ | with_reducible exact wr_rng _ | with_reducible exact i32any _ | (first | omega | with_reducible assumption | (unfold rng; omega) | (unfold rng; (repeat' split) <;> omega) | grind)); exact rτ183
              · refine Fr.aJ g ?_ (by decide); refine Fr.aI g ?_ (by decide); refine Fr.aI g ?_ (by decide); exact fτ183
              · first | exact ⟨MkI.fr (rm := rm) (K := [107, 108, 109]) (S := []) m1 (by repeat (first | exact Fr.rf | assumption | refine Fr.aJ g ?_ (by decide) | refine Fr.aI g ?_ (by decide) | refine Fr.sI g ?_ (by decide) | refine Fr.sJ g ?_ (by decide))) (by decide), HeE.fr (jx := jx) (K := [107, 108, 109]) (S := []) m2 (by repeat (first | exact Fr.rf | assumption | refine Fr.aJ g ?_ (by decide) | refine Fr.aI g ?_ (by decide) | refine Fr.sI g ?_ (by decide) | refine Fr.sJ g ?_ (by decide))) (by decide) (by decide), by omega, by omega⟩ | exact ⟨⟨fun i hi => a1 i (by omega), fun i hi => a2 i (by omega)⟩, a5, by omega, by omega⟩
              · (try simp only [rII, rIJ, rIP, rJJ, rJI, rJP, rPP, rPI, rPJ, g1, g2, g3, g4, g5, g6, g7, g8, Nat.reduceEqDiff, Nat.reduceAdd, false_and, and_false, true_and, and_true, reduceIte, nZ0, nZ1, fun a k => (jτ183 a k).1, fun a k => (jτ183 a k).2, pτ183, obτ183]) <;> (first | omega | with_reducible assumption | (unfold rng; omega) | (unfold rng; (repeat' split) <;> omega) | grind)
        refine ⟨_, L183 _ _ _ ?_ ?_ ?_ (Nat.lt_succ_self _)⟩
        · exact rτ39
        · exact fτ39
        · first | exact ⟨MkI.fr (rm := rm) (K := [107, 108, 109]) (S := []) m1 (by repeat (first | exact Fr.rf | assumption | refine Fr.aJ g ?_ (by decide) | refine Fr.aI g ?_ (by decide) | refine Fr.sI g ?_ (by decide) | refine Fr.sJ g ?_ (by decide))) (by decide), HeE.fr (jx := jx) (K := [107, 108, 109]) (S := []) m2 (by repeat (first | exact Fr.rf | assumption | refine Fr.aJ g ?_ (by decide) | refine Fr.aI g ?_ (by decide) | refine Fr.sI g ?_ (by decide) | refine Fr.sJ g ?_ (by decide))) (by decide) (by decide), by omega, by omega⟩ | exact ⟨⟨fun i hi => a1 i (by omega), fun i hi => a2 i (by omega)⟩, a5, by omega, by omega⟩
      · rename_i hc46
        skip
        unfold w_X16_seal_49
        try simp only [forall_eq, rII, rIJ, rIP, rJJ, rJI, rJP, rPP, rPI, rPJ, g1, g2, g3, g4, g5, g6, g7, g8, Nat.reduceEqDiff, Nat.reduceAdd, false_and, and_false, true_and, and_true, reduceIte, nZ0, nZ1, fun a k => (jτ39 a k).1, fun a k => (jτ39 a k).2, pτ39, obτ39]
        have a9 := a2 v1.toNat (by omega)
        rw [show 4000 + v1.toNat = (4000 + v1).toNat by omega] at a9
        have t03 := rτ39.2.2.2 103 (4000 + v1).toNat; simp only [rlT] at t03
        refine ⟨by (first | omega | with_reducible assumption | (unfold rng; omega) | (unfold rng; (repeat' split) <;> omega) | grind), ?_⟩
        refine ⟨by (first | omega | with_reducible assumption | (unfold rng; omega) | (unfold rng; (repeat' split) <;> omega) | grind), ?_⟩
        refine ⟨by (first | omega | with_reducible assumption | (unfold rng; omega) | (unfold rng; (repeat' split) <;> omega) | grind), ?_⟩
        have q9 := rτ39.1 99 ((4000 + v1).toNat); simp only [rgT] at q9
        refine ⟨by (first | omega | with_reducible assumption | (unfold rng; omega) | (unfold rng; (repeat' split) <;> omega) | grind), ?_⟩
        refine ⟨by (first | omega | with_reducible assumption | (unfold rng; omega) | (unfold rng; (repeat' split) <;> omega) | grind), ?_⟩
        have q10 := rτ39.1 100 ((4000 + v1).toNat); simp only [rgT] at q10
        refine ⟨by (first | omega | with_reducible assumption | (unfold rng; omega) | (unfold rng; (repeat' split) <;> omega) | grind), ?_⟩
        refine ⟨by (first | omega | with_reducible assumption | (unfold rng; omega) | (unfold rng; (repeat' split) <;> omega) | grind), ?_⟩
        have q11 := rτ39.1 101 ((4000 + v1).toNat); simp only [rgT] at q11
        refine ⟨by (first | omega | with_reducible assumption | (unfold rng; omega) | (unfold rng; (repeat' split) <;> omega) | grind), ?_⟩
        refine ⟨by (first | omega | with_reducible assumption | (unfold rng; omega) | (unfold rng; (repeat' split) <;> omega) | grind), ?_⟩
        refine ⟨by (first | omega | with_reducible assumption | (unfold rng; omega) | (unfold rng; (repeat' split) <;> omega) | grind), ?_⟩
        refine ⟨by (first | omega | with_reducible assumption | (unfold rng; omega) | (unfold rng; (repeat' split) <;> omega) | grind), ?_⟩
        refine ⟨by (first | omega | with_reducible assumption | (unfold rng; omega) | (unfold rng; (repeat' split) <;> omega) | grind), ?_⟩
        refine ⟨by (first | omega | with_reducible assumption | (unfold rng; omega) | (unfold rng; (repeat' split) <;> omega) | grind), ?_⟩
        refine ⟨by (first | omega | with_reducible assumption | (unfold rng; omega) | (unfold rng; (repeat' split) <;> omega) | grind), ?_⟩
        refine ⟨by (first | omega | with_reducible assumption | (unfold rng; omega) | (unfold rng; (repeat' split) <;> omega) | grind), ?_⟩
        have q12 := rτ39.1 106 ((4000 + v1).toNat); simp only [rgT] at q12
        have L141 : ∀ (fu141 : Nat) (τ141 : Sg) (v3 : Int), Rg ra jx rm τ141 → Fr ra jx rm [44, 86, 87, 88, 89, 97, 98, 99, 100, 101, 102, 103, 104, 105, 106, 107, 108, 109] [92, 93] σ τ141 → ((∀ i : Nat, (i : Int) < v1 + 1 → MkC ra jx ja τ141 i) ∧ (∀ i : Nat, (i : Int) < gI σ (ra 98) 1 → MkC ra jx ja τ141 (4000 + i)) ∧ gI τ141 (ra 98) 0 = gI σ (ra 98) 1 ∧ gI τ141 (ra 98) 1 = gI σ (ra 98) 1 ∧ HeE ra rm τ141 ∧ 0 ≤ v3 ∧ v3 ≤ 8) → ((8 - v3).toNat) < fu141 → wl_X16_seal_141 ra jx rm (wl_X16_seal_39 ra jx rm Q X fu39) Q X fu141 τ141 v1 (4000 + v1) v3 := by
          intro fu141
          induction fu141 with
          | zero => intro τ141 _ _ _ _ h9; omega
          | succ fu141 ih141 =>
            intro τ141 v3 rτ141 fτ141 hi141 hm141
            unfold wl_X16_seal_141
            have jτ141 := fτ141.2.2.1
            have pτ141 := fτ141.2.2.2
            have obτ141 := Fr.ob fτ141 hja (by decide)
            unfold w_X16_seal_141
            try simp only [forall_eq, rII, rIJ, rIP, rJJ, rJI, rJP, rPP, rPI, rPJ, g1, g2, g3, g4, g5, g6, g7, g8, Nat.reduceEqDiff, Nat.reduceAdd, false_and, and_false, true_and, and_true, reduceIte, nZ0, nZ1, fun a k => (jτ141 a k).1, fun a k => (jτ141 a k).2, pτ141, obτ141]
            obtain ⟨b1, b2, b3, b4, b5, b6, b7⟩ := hi141
            split
            · rename_i hc144
              skip
              unfold w_X16_seal_175
              try simp only [forall_eq, rII, rIJ, rIP, rJJ, rJI, rJP, rPP, rPI, rPJ, g1, g2, g3, g4, g5, g6, g7, g8, Nat.reduceEqDiff, Nat.reduceAdd, false_and, and_false, true_and, and_true, reduceIte, nZ0, nZ1, fun a k => (jτ141 a k).1, fun a k => (jτ141 a k).2, pτ141, obτ141]
              refine ⟨by (first | omega | with_reducible assumption | (unfold rng; omega) | (unfold rng; (repeat' split) <;> omega) | grind), ?_⟩
              refine ih39 _ _ ?_ ?_ ?_ ?_
              · exact rτ141
              · exact fτ141
              · first | exact ⟨fun i hi => b1 i (by omega), b2, by omega, by omega, b5, by omega, by omega⟩ | exact ⟨fun i hi => absurd hi (by omega), fun i hi => MkC.eq (hmk.2 i hi) (by funext a9; (try simp only [rII, rIJ, rIP, rJJ, rJI, rJP, rPP, rPI, rPJ, g1, g2, g3, g4, g5, g6, g7, g8, Nat.reduceEqDiff, Nat.reduceAdd, false_and, and_false, true_and, and_true, reduceIte, nZ0, nZ1, fun a k => (jτ141 a k).1, fun a k => (jτ141 a k).2, pτ141, obτ141]) <;> first | rfl | omega | grind) (by funext a9; (try simp only [rII, rIJ, rIP, rJJ, rJI, rJP, rPP, rPI, rPJ, g1, g2, g3, g4, g5, g6, g7, g8, Nat.reduceEqDiff, Nat.reduceAdd, false_and, and_false, true_and, and_true, reduceIte, nZ0, nZ1, fun a k => (jτ141 a k).1, fun a k => (jτ141 a k).2, pτ141, obτ141]) <;> first | rfl | omega | grind) (by (try simp only [rII, rIJ, rIP, rJJ, rJI, rJP, rPP, rPI, rPJ, g1, g2, g3, g4, g5, g6, g7, g8, Nat.reduceEqDiff, Nat.reduceAdd, false_and, and_false, true_and, and_true, reduceIte, nZ0, nZ1, fun a k => (jτ141 a k).1, fun a k => (jτ141 a k).2, pτ141, obτ141]) <;> (repeat' split) <;> first | rfl | omega | grind) (by (try simp only [rII, rIJ, rIP, rJJ, rJI, rJP, rPP, rPI, rPJ, g1, g2, g3, g4, g5, g6, g7, g8, Nat.reduceEqDiff, Nat.reduceAdd, false_and, and_false, true_and, and_true, reduceIte, nZ0, nZ1, fun a k => (jτ141 a k).1, fun a k => (jτ141 a k).2, pτ141, obτ141]) <;> (repeat' split) <;> first | rfl | omega | grind) (by (try simp only [rII, rIJ, rIP, rJJ, rJI, rJP, rPP, rPI, rPJ, g1, g2, g3, g4, g5, g6, g7, g8, Nat.reduceEqDiff, Nat.reduceAdd, false_and, and_false, true_and, and_true, reduceIte, nZ0, nZ1, fun a k => (jτ141 a k).1, fun a k => (jτ141 a k).2, pτ141, obτ141]) <;> (repeat' split) <;> first | rfl | omega | grind), by (try simp only [rII, rIJ, rIP, rJJ, rJI, rJP, rPP, rPI, rPJ, g1, g2, g3, g4, g5, g6, g7, g8, Nat.reduceEqDiff, Nat.reduceAdd, false_and, and_false, true_and, and_true, reduceIte, nZ0, nZ1, fun a k => (jτ141 a k).1, fun a k => (jτ141 a k).2, pτ141, obτ141]), by (try simp only [rII, rIJ, rIP, rJJ, rJI, rJP, rPP, rPI, rPJ, g1, g2, g3, g4, g5, g6, g7, g8, Nat.reduceEqDiff, Nat.reduceAdd, false_and, and_false, true_and, and_true, reduceIte, nZ0, nZ1, fun a k => (jτ141 a k).1, fun a k => (jτ141 a k).2, pτ141, obτ141]), HeE.fr (jx := jx) (K := [97, 98]) (S := [92, 93]) hhe (by repeat (first | exact Fr.rf | assumption | refine Fr.aJ g ?_ (by decide) | refine Fr.aI g ?_ (by decide) | refine Fr.sI g ?_ (by decide) | refine Fr.sJ g ?_ (by decide))) (by decide) (by decide), by omega, by omega⟩
              · (try simp only [rII, rIJ, rIP, rJJ, rJI, rJP, rPP, rPI, rPJ, g1, g2, g3, g4, g5, g6, g7, g8, Nat.reduceEqDiff, Nat.reduceAdd, false_and, and_false, true_and, and_true, reduceIte, nZ0, nZ1, fun a k => (jτ141 a k).1, fun a k => (jτ141 a k).2, pτ141, obτ141]) <;> (first | omega | with_reducible assumption | (unfold rng; omega) | (unfold rng; (repeat' split) <;> omega) | grind)
            · rename_i hc144
              skip
              unfold w_X16_seal_147
              try simp only [forall_eq, rII, rIJ, rIP, rJJ, rJI, rJP, rPP, rPI, rPJ, g1, g2, g3, g4, g5, g6, g7, g8, Nat.reduceEqDiff, Nat.reduceAdd, false_and, and_false, true_and, and_true, reduceIte, nZ0, nZ1, fun a k => (jτ141 a k).1, fun a k => (jτ141 a k).2, pτ141, obτ141]
              refine ⟨by (first | omega | with_reducible assumption | (unfold rng; omega) | (unfold rng; (repeat' split) <;> omega) | grind), ?_⟩
              refine ⟨by (first | omega | with_reducible assumption | (unfold rng; omega) | (unfold rng; (repeat' split) <;> omega) | grind), ?_⟩
              refine ⟨by (first | omega | with_reducible assumption | (unfold rng; omega) | (unfold rng; (repeat' split) <;> omega) | grind), ?_⟩
              refine ⟨by (first | omega | with_reducible assumption | (unfold rng; omega) | (unfold rng; (repeat' split) <;> omega) | grind), ?_⟩
              refine ⟨by (first | omega | with_reducible assumption | (unfold rng; omega) | (unfold rng; (repeat' split) <;> omega) | grind), ?_⟩
              refine ⟨by (first | omega | with_reducible assumption | (unfold rng; omega) | (unfold rng; (repeat' split) <;> omega) | grind), ?_⟩
              refine ⟨by (first | omega | with_reducible assumption | (unfold rng; omega) | (unfold rng; (repeat' split) <;> omega) | grind), ?_⟩
              refine ih141 _ _ ?_ ?_ ?_ ?_
              · refine Rg.aJ g ?_ (by simp only [rlT]; first | with_reducible assumption | omega | exact Int64.toInt_le _ | (rw [Int64.toInt_ofInt_of_le (by omega) (by omega)]; omega) | grind); exact rτ141
              · refine Fr.aJ g ?_ (by decide); exact fτ141
              · first | exact ⟨fun i hi => MkC.eq (b1 i hi) (by funext a9; (try simp only [rII, rIJ, rIP, rJJ, rJI, rJP, rPP, rPI, rPJ, g1, g2, g3, g4, g5, g6, g7, g8, Nat.reduceEqDiff, Nat.reduceAdd, false_and, and_false, true_and, and_true, reduceIte, nZ0, nZ1, fun a k => (jτ141 a k).1, fun a k => (jτ141 a k).2, pτ141, obτ141]) <;> first | rfl | omega | grind) (by funext a9; (try simp only [rII, rIJ, rIP, rJJ, rJI, rJP, rPP, rPI, rPJ, g1, g2, g3, g4, g5, g6, g7, g8, Nat.reduceEqDiff, Nat.reduceAdd, false_and, and_false, true_and, and_true, reduceIte, nZ0, nZ1, fun a k => (jτ141 a k).1, fun a k => (jτ141 a k).2, pτ141, obτ141]) <;> first | rfl | omega | grind) (by (try simp only [rII, rIJ, rIP, rJJ, rJI, rJP, rPP, rPI, rPJ, g1, g2, g3, g4, g5, g6, g7, g8, Nat.reduceEqDiff, Nat.reduceAdd, false_and, and_false, true_and, and_true, reduceIte, nZ0, nZ1, fun a k => (jτ141 a k).1, fun a k => (jτ141 a k).2, pτ141, obτ141]) <;> (repeat' split) <;> first | rfl | omega | grind) (by (try simp only [rII, rIJ, rIP, rJJ, rJI, rJP, rPP, rPI, rPJ, g1, g2, g3, g4, g5, g6, g7, g8, Nat.reduceEqDiff, Nat.reduceAdd, false_and, and_false, true_and, and_true, reduceIte, nZ0, nZ1, fun a k => (jτ141 a k).1, fun a k => (jτ141 a k).2, pτ141, obτ141]) <;> (repeat' split) <;> first | rfl | omega | grind) (by (try simp only [rII, rIJ, rIP, rJJ, rJI, rJP, rPP, rPI, rPJ, g1, g2, g3, g4, g5, g6, g7, g8, Nat.reduceEqDiff, Nat.reduceAdd, false_and, and_false, true_and, and_true, reduceIte, nZ0, nZ1, fun a k => (jτ141 a k).1, fun a k => (jτ141 a k).2, pτ141, obτ141]) <;> (repeat' split) <;> first | rfl | omega | grind), fun i hi => MkC.eq (b2 i hi) (by funext a9; (try simp only [rII, rIJ, rIP, rJJ, rJI, rJP, rPP, rPI, rPJ, g1, g2, g3, g4, g5, g6, g7, g8, Nat.reduceEqDiff, Nat.reduceAdd, false_and, and_false, true_and, and_true, reduceIte, nZ0, nZ1, fun a k => (jτ141 a k).1, fun a k => (jτ141 a k).2, pτ141, obτ141]) <;> first | rfl | omega | grind) (by funext a9; (try simp only [rII, rIJ, rIP, rJJ, rJI, rJP, rPP, rPI, rPJ, g1, g2, g3, g4, g5, g6, g7, g8, Nat.reduceEqDiff, Nat.reduceAdd, false_and, and_false, true_and, and_true, reduceIte, nZ0, nZ1, fun a k => (jτ141 a k).1, fun a k => (jτ141 a k).2, pτ141, obτ141]) <;> first | rfl | omega | grind) (by (try simp only [rII, rIJ, rIP, rJJ, rJI, rJP, rPP, rPI, rPJ, g1, g2, g3, g4, g5, g6, g7, g8, Nat.reduceEqDiff, Nat.reduceAdd, false_and, and_false, true_and, and_true, reduceIte, nZ0, nZ1, fun a k => (jτ141 a k).1, fun a k => (jτ141 a k).2, pτ141, obτ141]) <;> (repeat' split) <;> first | rfl | omega | grind) (by (try simp only [rII, rIJ, rIP, rJJ, rJI, rJP, rPP, rPI, rPJ, g1, g2, g3, g4, g5, g6, g7, g8, Nat.reduceEqDiff, Nat.reduceAdd, false_and, and_false, true_and, and_true, reduceIte, nZ0, nZ1, fun a k => (jτ141 a k).1, fun a k => (jτ141 a k).2, pτ141, obτ141]) <;> (repeat' split) <;> first | rfl | omega | grind) (by (try simp only [rII, rIJ, rIP, rJJ, rJI, rJP, rPP, rPI, rPJ, g1, g2, g3, g4, g5, g6, g7, g8, Nat.reduceEqDiff, Nat.reduceAdd, false_and, and_false, true_and, and_true, reduceIte, nZ0, nZ1, fun a k => (jτ141 a k).1, fun a k => (jτ141 a k).2, pτ141, obτ141]) <;> (repeat' split) <;> first | rfl | omega | grind), by (try simp only [rII, rIJ, rIP, rJJ, rJI, rJP, rPP, rPI, rPJ, g1, g2, g3, g4, g5, g6, g7, g8, Nat.reduceEqDiff, Nat.reduceAdd, false_and, and_false, true_and, and_true, reduceIte, nZ0, nZ1, fun a k => (jτ141 a k).1, fun a k => (jτ141 a k).2, pτ141, obτ141]) <;> omega, by (try simp only [rII, rIJ, rIP, rJJ, rJI, rJP, rPP, rPI, rPJ, g1, g2, g3, g4, g5, g6, g7, g8, Nat.reduceEqDiff, Nat.reduceAdd, false_and, and_false, true_and, and_true, reduceIte, nZ0, nZ1, fun a k => (jτ141 a k).1, fun a k => (jτ141 a k).2, pτ141, obτ141]) <;> omega, HeE.fr (jx := jx) (K := [105]) (S := []) b5 (by repeat (first | exact Fr.rf | assumption | refine Fr.aJ g ?_ (by decide) | refine Fr.aI g ?_ (by decide) | refine Fr.sI g ?_ (by decide) | refine Fr.sJ g ?_ (by decide))) (by decide) (by decide), by omega, by omega⟩ | exact ⟨fun i hi => (by by_cases q : i = v1.toNat; (subst q; exact MkC.cp a9 (by funext a9; (try simp only [rII, rIJ, rIP, rJJ, rJI, rJP, rPP, rPI, rPJ, g1, g2, g3, g4, g5, g6, g7, g8, Nat.reduceEqDiff, Nat.reduceAdd, false_and, and_false, true_and, and_true, reduceIte, nZ0, nZ1, fun a k => (jτ141 a k).1, fun a k => (jτ141 a k).2, pτ141, obτ141]) <;> first | rfl | omega | grind) (by funext a9; (try simp only [rII, rIJ, rIP, rJJ, rJI, rJP, rPP, rPI, rPJ, g1, g2, g3, g4, g5, g6, g7, g8, Nat.reduceEqDiff, Nat.reduceAdd, false_and, and_false, true_and, and_true, reduceIte, nZ0, nZ1, fun a k => (jτ141 a k).1, fun a k => (jτ141 a k).2, pτ141, obτ141]) <;> first | rfl | omega | grind) (by (try simp only [rII, rIJ, rIP, rJJ, rJI, rJP, rPP, rPI, rPJ, g1, g2, g3, g4, g5, g6, g7, g8, Nat.reduceEqDiff, Nat.reduceAdd, false_and, and_false, true_and, and_true, reduceIte, nZ0, nZ1, fun a k => (jτ141 a k).1, fun a k => (jτ141 a k).2, pτ141, obτ141]) <;> (repeat' split) <;> first | rfl | omega | grind) (by (try simp only [rII, rIJ, rIP, rJJ, rJI, rJP, rPP, rPI, rPJ, g1, g2, g3, g4, g5, g6, g7, g8, Nat.reduceEqDiff, Nat.reduceAdd, false_and, and_false, true_and, and_true, reduceIte, nZ0, nZ1, fun a k => (jτ141 a k).1, fun a k => (jτ141 a k).2, pτ141, obτ141]) <;> (repeat' split) <;> first | rfl | omega | grind) (by (try simp only [rII, rIJ, rIP, rJJ, rJI, rJP, rPP, rPI, rPJ, g1, g2, g3, g4, g5, g6, g7, g8, Nat.reduceEqDiff, Nat.reduceAdd, false_and, and_false, true_and, and_true, reduceIte, nZ0, nZ1, fun a k => (jτ141 a k).1, fun a k => (jτ141 a k).2, pτ141, obτ141]) <;> (repeat' split) <;> first | rfl | omega | grind)); (exact MkC.eq (a1 i (by omega)) (by funext a9; (try simp only [rII, rIJ, rIP, rJJ, rJI, rJP, rPP, rPI, rPJ, g1, g2, g3, g4, g5, g6, g7, g8, Nat.reduceEqDiff, Nat.reduceAdd, false_and, and_false, true_and, and_true, reduceIte, nZ0, nZ1, fun a k => (jτ141 a k).1, fun a k => (jτ141 a k).2, pτ141, obτ141]) <;> first | rfl | omega | grind) (by funext a9; (try simp only [rII, rIJ, rIP, rJJ, rJI, rJP, rPP, rPI, rPJ, g1, g2, g3, g4, g5, g6, g7, g8, Nat.reduceEqDiff, Nat.reduceAdd, false_and, and_false, true_and, and_true, reduceIte, nZ0, nZ1, fun a k => (jτ141 a k).1, fun a k => (jτ141 a k).2, pτ141, obτ141]) <;> first | rfl | omega | grind) (by (try simp only [rII, rIJ, rIP, rJJ, rJI, rJP, rPP, rPI, rPJ, g1, g2, g3, g4, g5, g6, g7, g8, Nat.reduceEqDiff, Nat.reduceAdd, false_and, and_false, true_and, and_true, reduceIte, nZ0, nZ1, fun a k => (jτ141 a k).1, fun a k => (jτ141 a k).2, pτ141, obτ141]) <;> (repeat' split) <;> first | rfl | omega | grind) (by (try simp only [rII, rIJ, rIP, rJJ, rJI, rJP, rPP, rPI, rPJ, g1, g2, g3, g4, g5, g6, g7, g8, Nat.reduceEqDiff, Nat.reduceAdd, false_and, and_false, true_and, and_true, reduceIte, nZ0, nZ1, fun a k => (jτ141 a k).1, fun a k => (jτ141 a k).2, pτ141, obτ141]) <;> (repeat' split) <;> first | rfl | omega | grind) (by (try simp only [rII, rIJ, rIP, rJJ, rJI, rJP, rPP, rPI, rPJ, g1, g2, g3, g4, g5, g6, g7, g8, Nat.reduceEqDiff, Nat.reduceAdd, false_and, and_false, true_and, and_true, reduceIte, nZ0, nZ1, fun a k => (jτ141 a k).1, fun a k => (jτ141 a k).2, pτ141, obτ141]) <;> (repeat' split) <;> first | rfl | omega | grind))), fun i hi => MkC.eq (a2 i hi) (by funext a9; (try simp only [rII, rIJ, rIP, rJJ, rJI, rJP, rPP, rPI, rPJ, g1, g2, g3, g4, g5, g6, g7, g8, Nat.reduceEqDiff, Nat.reduceAdd, false_and, and_false, true_and, and_true, reduceIte, nZ0, nZ1, fun a k => (jτ141 a k).1, fun a k => (jτ141 a k).2, pτ141, obτ141]) <;> first | rfl | omega | grind) (by funext a9; (try simp only [rII, rIJ, rIP, rJJ, rJI, rJP, rPP, rPI, rPJ, g1, g2, g3, g4, g5, g6, g7, g8, Nat.reduceEqDiff, Nat.reduceAdd, false_and, and_false, true_and, and_true, reduceIte, nZ0, nZ1, fun a k => (jτ141 a k).1, fun a k => (jτ141 a k).2, pτ141, obτ141]) <;> first | rfl | omega | grind) (by (try simp only [rII, rIJ, rIP, rJJ, rJI, rJP, rPP, rPI, rPJ, g1, g2, g3, g4, g5, g6, g7, g8, Nat.reduceEqDiff, Nat.reduceAdd, false_and, and_false, true_and, and_true, reduceIte, nZ0, nZ1, fun a k => (jτ141 a k).1, fun a k => (jτ141 a k).2, pτ141, obτ141]) <;> (repeat' split) <;> first | rfl | omega | grind) (by (try simp only [rII, rIJ, rIP, rJJ, rJI, rJP, rPP, rPI, rPJ, g1, g2, g3, g4, g5, g6, g7, g8, Nat.reduceEqDiff, Nat.reduceAdd, false_and, and_false, true_and, and_true, reduceIte, nZ0, nZ1, fun a k => (jτ141 a k).1, fun a k => (jτ141 a k).2, pτ141, obτ141]) <;> (repeat' split) <;> first | rfl | omega | grind) (by (try simp only [rII, rIJ, rIP, rJJ, rJI, rJP, rPP, rPI, rPJ, g1, g2, g3, g4, g5, g6, g7, g8, Nat.reduceEqDiff, Nat.reduceAdd, false_and, and_false, true_and, and_true, reduceIte, nZ0, nZ1, fun a k => (jτ141 a k).1, fun a k => (jτ141 a k).2, pτ141, obτ141]) <;> (repeat' split) <;> first | rfl | omega | grind), by (try simp only [rII, rIJ, rIP, rJJ, rJI, rJP, rPP, rPI, rPJ, g1, g2, g3, g4, g5, g6, g7, g8, Nat.reduceEqDiff, Nat.reduceAdd, false_and, and_false, true_and, and_true, reduceIte, nZ0, nZ1, fun a k => (jτ141 a k).1, fun a k => (jτ141 a k).2, pτ141, obτ141]) <;> omega, by (try simp only [rII, rIJ, rIP, rJJ, rJI, rJP, rPP, rPI, rPJ, g1, g2, g3, g4, g5, g6, g7, g8, Nat.reduceEqDiff, Nat.reduceAdd, false_and, and_false, true_and, and_true, reduceIte, nZ0, nZ1, fun a k => (jτ141 a k).1, fun a k => (jτ141 a k).2, pτ141, obτ141]) <;> omega, HeE.fr (jx := jx) (K := [99, 100, 101, 102, 103, 104, 106]) (S := []) a5 (by repeat (first | exact Fr.rf | assumption | refine Fr.aJ g ?_ (by decide) | refine Fr.aI g ?_ (by decide) | refine Fr.sI g ?_ (by decide) | refine Fr.sJ g ?_ (by decide))) (by decide) (by decide), by omega, by omega⟩
              · (try simp only [rII, rIJ, rIP, rJJ, rJI, rJP, rPP, rPI, rPJ, g1, g2, g3, g4, g5, g6, g7, g8, Nat.reduceEqDiff, Nat.reduceAdd, false_and, and_false, true_and, and_true, reduceIte, nZ0, nZ1, fun a k => (jτ141 a k).1, fun a k => (jτ141 a k).2, pτ141, obτ141]) <;> (first | omega | with_reducible assumption | (unfold rng; omega) | (unfold rng; (repeat' split) <;> omega) | grind)
        refine ⟨_, L141 _ _ _ ?_ ?_ ?_ (Nat.lt_succ_self _)⟩
        · refine Rg.aI g ?_ (by simp only [rgT]; first | with_reducible exact nZ_rng _ | with_reducible exact nB_rng _ | with_reducible exact wr_rng _ | with_reducible exact i32any _ | (first | omega | with_reducible assumption | (unfold rng; omega) | (unfold rng; (repeat' split) <;> omega) | grind)); refine Rg.aJ g ?_ (by simp only [rlT]; first | with_reducible assumption | omega | exact Int64.toInt_le _ | (rw [Int64.toInt_ofInt_of_le (by omega) (by omega)]; omega) | grind); refine Rg.aJ g ?_ (by simp only [rlT]; first | with_reducible assumption | omega | exact Int64.toInt_le _ | (rw [Int64.toInt_ofInt_of_le (by omega) (by omega)]; omega) | grind); refine Rg.aJ g ?_ (by simp only [rlT]; first | with_reducible assumption | omega | exact Int64.toInt_le _ | (rw [Int64.toInt_ofInt_of_le (by omega) (by omega)]; omega) | grind); refine Rg.aI g ?_ (by simp only [rgT]; first | with_reducible exact nZ_rng _ | with_reducible exact nB_rng _ | with_reducible exact wr_rng _ | with_reducible exact i32any _ | (first | omega | with_reducible assumption | (unfold rng; omega) | (unfold rng; (repeat' split) <;> omega) | grind)); refine Rg.aI g ?_ (by simp only [rgT]; first | with_reducible exact nZ_rng _ | with_reducible exact nB_rng _ | with_reducible exact wr_rng _ | with_reducible exact i32any _ | (first | omega | with_reducible assumption | (unfold rng; omega) | (unfold rng; (repeat' split) <;> omega) | grind)); refine Rg.aI g ?_ (by simp only [rgT]; first | with_reducible exact nZ_rng _ | with_reducible exact nB_rng _ | with_reducible exact wr_rng _ | with_reducible exact i32any _ | (first | omega | with_reducible assumption | (unfold rng; omega) | (unfold rng; (repeat' split) <;> omega) | grind)); exact rτ39
        · refine Fr.aI g ?_ (by decide); refine Fr.aJ g ?_ (by decide); refine Fr.aJ g ?_ (by decide); refine Fr.aJ g ?_ (by decide); refine Fr.aI g ?_ (by decide); refine Fr.aI g ?_ (by decide); refine Fr.aI g ?_ (by decide); exact fτ39
        · first | exact ⟨fun i hi => MkC.eq (b1 i hi) (by funext a9; (try simp only [rII, rIJ, rIP, rJJ, rJI, rJP, rPP, rPI, rPJ, g1, g2, g3, g4, g5, g6, g7, g8, Nat.reduceEqDiff, Nat.reduceAdd, false_and, and_false, true_and, and_true, reduceIte, nZ0, nZ1, fun a k => (jτ39 a k).1, fun a k => (jτ39 a k).2, pτ39, obτ39]) <;> first | rfl | omega | grind) (by funext a9; (try simp only [rII, rIJ, rIP, rJJ, rJI, rJP, rPP, rPI, rPJ, g1, g2, g3, g4, g5, g6, g7, g8, Nat.reduceEqDiff, Nat.reduceAdd, false_and, and_false, true_and, and_true, reduceIte, nZ0, nZ1, fun a k => (jτ39 a k).1, fun a k => (jτ39 a k).2, pτ39, obτ39]) <;> first | rfl | omega | grind) (by (try simp only [rII, rIJ, rIP, rJJ, rJI, rJP, rPP, rPI, rPJ, g1, g2, g3, g4, g5, g6, g7, g8, Nat.reduceEqDiff, Nat.reduceAdd, false_and, and_false, true_and, and_true, reduceIte, nZ0, nZ1, fun a k => (jτ39 a k).1, fun a k => (jτ39 a k).2, pτ39, obτ39]) <;> (repeat' split) <;> first | rfl | omega | grind) (by (try simp only [rII, rIJ, rIP, rJJ, rJI, rJP, rPP, rPI, rPJ, g1, g2, g3, g4, g5, g6, g7, g8, Nat.reduceEqDiff, Nat.reduceAdd, false_and, and_false, true_and, and_true, reduceIte, nZ0, nZ1, fun a k => (jτ39 a k).1, fun a k => (jτ39 a k).2, pτ39, obτ39]) <;> (repeat' split) <;> first | rfl | omega | grind) (by (try simp only [rII, rIJ, rIP, rJJ, rJI, rJP, rPP, rPI, rPJ, g1, g2, g3, g4, g5, g6, g7, g8, Nat.reduceEqDiff, Nat.reduceAdd, false_and, and_false, true_and, and_true, reduceIte, nZ0, nZ1, fun a k => (jτ39 a k).1, fun a k => (jτ39 a k).2, pτ39, obτ39]) <;> (repeat' split) <;> first | rfl | omega | grind), fun i hi => MkC.eq (b2 i hi) (by funext a9; (try simp only [rII, rIJ, rIP, rJJ, rJI, rJP, rPP, rPI, rPJ, g1, g2, g3, g4, g5, g6, g7, g8, Nat.reduceEqDiff, Nat.reduceAdd, false_and, and_false, true_and, and_true, reduceIte, nZ0, nZ1, fun a k => (jτ39 a k).1, fun a k => (jτ39 a k).2, pτ39, obτ39]) <;> first | rfl | omega | grind) (by funext a9; (try simp only [rII, rIJ, rIP, rJJ, rJI, rJP, rPP, rPI, rPJ, g1, g2, g3, g4, g5, g6, g7, g8, Nat.reduceEqDiff, Nat.reduceAdd, false_and, and_false, true_and, and_true, reduceIte, nZ0, nZ1, fun a k => (jτ39 a k).1, fun a k => (jτ39 a k).2, pτ39, obτ39]) <;> first | rfl | omega | grind) (by (try simp only [rII, rIJ, rIP, rJJ, rJI, rJP, rPP, rPI, rPJ, g1, g2, g3, g4, g5, g6, g7, g8, Nat.reduceEqDiff, Nat.reduceAdd, false_and, and_false, true_and, and_true, reduceIte, nZ0, nZ1, fun a k => (jτ39 a k).1, fun a k => (jτ39 a k).2, pτ39, obτ39]) <;> (repeat' split) <;> first | rfl | omega | grind) (by (try simp only [rII, rIJ, rIP, rJJ, rJI, rJP, rPP, rPI, rPJ, g1, g2, g3, g4, g5, g6, g7, g8, Nat.reduceEqDiff, Nat.reduceAdd, false_and, and_false, true_and, and_true, reduceIte, nZ0, nZ1, fun a k => (jτ39 a k).1, fun a k => (jτ39 a k).2, pτ39, obτ39]) <;> (repeat' split) <;> first | rfl | omega | grind) (by (try simp only [rII, rIJ, rIP, rJJ, rJI, rJP, rPP, rPI, rPJ, g1, g2, g3, g4, g5, g6, g7, g8, Nat.reduceEqDiff, Nat.reduceAdd, false_and, and_false, true_and, and_true, reduceIte, nZ0, nZ1, fun a k => (jτ39 a k).1, fun a k => (jτ39 a k).2, pτ39, obτ39]) <;> (repeat' split) <;> first | rfl | omega | grind), by (try simp only [rII, rIJ, rIP, rJJ, rJI, rJP, rPP, rPI, rPJ, g1, g2, g3, g4, g5, g6, g7, g8, Nat.reduceEqDiff, Nat.reduceAdd, false_and, and_false, true_and, and_true, reduceIte, nZ0, nZ1, fun a k => (jτ39 a k).1, fun a k => (jτ39 a k).2, pτ39, obτ39]) <;> omega, by (try simp only [rII, rIJ, rIP, rJJ, rJI, rJP, rPP, rPI, rPJ, g1, g2, g3, g4, g5, g6, g7, g8, Nat.reduceEqDiff, Nat.reduceAdd, false_and, and_false, true_and, and_true, reduceIte, nZ0, nZ1, fun a k => (jτ39 a k).1, fun a k => (jτ39 a k).2, pτ39, obτ39]) <;> omega, HeE.fr (jx := jx) (K := [105]) (S := []) b5 (by repeat (first | exact Fr.rf | assumption | refine Fr.aJ g ?_ (by decide) | refine Fr.aI g ?_ (by decide) | refine Fr.sI g ?_ (by decide) | refine Fr.sJ g ?_ (by decide))) (by decide) (by decide), by omega, by omega⟩ | exact ⟨fun i hi => (by by_cases q : i = v1.toNat; (subst q; exact MkC.cp a9 (by funext a9; (try simp only [rII, rIJ, rIP, rJJ, rJI, rJP, rPP, rPI, rPJ, g1, g2, g3, g4, g5, g6, g7, g8, Nat.reduceEqDiff, Nat.reduceAdd, false_and, and_false, true_and, and_true, reduceIte, nZ0, nZ1, fun a k => (jτ39 a k).1, fun a k => (jτ39 a k).2, pτ39, obτ39]) <;> first | rfl | omega | grind) (by funext a9; (try simp only [rII, rIJ, rIP, rJJ, rJI, rJP, rPP, rPI, rPJ, g1, g2, g3, g4, g5, g6, g7, g8, Nat.reduceEqDiff, Nat.reduceAdd, false_and, and_false, true_and, and_true, reduceIte, nZ0, nZ1, fun a k => (jτ39 a k).1, fun a k => (jτ39 a k).2, pτ39, obτ39]) <;> first | rfl | omega | grind) (by (try simp only [rII, rIJ, rIP, rJJ, rJI, rJP, rPP, rPI, rPJ, g1, g2, g3, g4, g5, g6, g7, g8, Nat.reduceEqDiff, Nat.reduceAdd, false_and, and_false, true_and, and_true, reduceIte, nZ0, nZ1, fun a k => (jτ39 a k).1, fun a k => (jτ39 a k).2, pτ39, obτ39]) <;> (repeat' split) <;> first | rfl | omega | grind) (by (try simp only [rII, rIJ, rIP, rJJ, rJI, rJP, rPP, rPI, rPJ, g1, g2, g3, g4, g5, g6, g7, g8, Nat.reduceEqDiff, Nat.reduceAdd, false_and, and_false, true_and, and_true, reduceIte, nZ0, nZ1, fun a k => (jτ39 a k).1, fun a k => (jτ39 a k).2, pτ39, obτ39]) <;> (repeat' split) <;> first | rfl | omega | grind) (by (try simp only [rII, rIJ, rIP, rJJ, rJI, rJP, rPP, rPI, rPJ, g1, g2, g3, g4, g5, g6, g7, g8, Nat.reduceEqDiff, Nat.reduceAdd, false_and, and_false, true_and, and_true, reduceIte, nZ0, nZ1, fun a k => (jτ39 a k).1, fun a k => (jτ39 a k).2, pτ39, obτ39]) <;> (repeat' split) <;> first | rfl | omega | grind)); (exact MkC.eq (a1 i (by omega)) (by funext a9; (try simp only [rII, rIJ, rIP, rJJ, rJI, rJP, rPP, rPI, rPJ, g1, g2, g3, g4, g5, g6, g7, g8, Nat.reduceEqDiff, Nat.reduceAdd, false_and, and_false, true_and, and_true, reduceIte, nZ0, nZ1, fun a k => (jτ39 a k).1, fun a k => (jτ39 a k).2, pτ39, obτ39]) <;> first | rfl | omega | grind) (by funext a9; (try simp only [rII, rIJ, rIP, rJJ, rJI, rJP, rPP, rPI, rPJ, g1, g2, g3, g4, g5, g6, g7, g8, Nat.reduceEqDiff, Nat.reduceAdd, false_and, and_false, true_and, and_true, reduceIte, nZ0, nZ1, fun a k => (jτ39 a k).1, fun a k => (jτ39 a k).2, pτ39, obτ39]) <;> first | rfl | omega | grind) (by (try simp only [rII, rIJ, rIP, rJJ, rJI, rJP, rPP, rPI, rPJ, g1, g2, g3, g4, g5, g6, g7, g8, Nat.reduceEqDiff, Nat.reduceAdd, false_and, and_false, true_and, and_true, reduceIte, nZ0, nZ1, fun a k => (jτ39 a k).1, fun a k => (jτ39 a k).2, pτ39, obτ39]) <;> (repeat' split) <;> first | rfl | omega | grind) (by (try simp only [rII, rIJ, rIP, rJJ, rJI, rJP, rPP, rPI, rPJ, g1, g2, g3, g4, g5, g6, g7, g8, Nat.reduceEqDiff, Nat.reduceAdd, false_and, and_false, true_and, and_true, reduceIte, nZ0, nZ1, fun a k => (jτ39 a k).1, fun a k => (jτ39 a k).2, pτ39, obτ39]) <;> (repeat' split) <;> first | rfl | omega | grind) (by (try simp only [rII, rIJ, rIP, rJJ, rJI, rJP, rPP, rPI, rPJ, g1, g2, g3, g4, g5, g6, g7, g8, Nat.reduceEqDiff, Nat.reduceAdd, false_and, and_false, true_and, and_true, reduceIte, nZ0, nZ1, fun a k => (jτ39 a k).1, fun a k => (jτ39 a k).2, pτ39, obτ39]) <;> (repeat' split) <;> first | rfl | omega | grind))), fun i hi => MkC.eq (a2 i hi) (by funext a9; (try simp only [rII, rIJ, rIP, rJJ, rJI, rJP, rPP, rPI, rPJ, g1, g2, g3, g4, g5, g6, g7, g8, Nat.reduceEqDiff, Nat.reduceAdd, false_and, and_false, true_and, and_true, reduceIte, nZ0, nZ1, fun a k => (jτ39 a k).1, fun a k => (jτ39 a k).2, pτ39, obτ39]) <;> first | rfl | omega | grind) (by funext a9; (try simp only [rII, rIJ, rIP, rJJ, rJI, rJP, rPP, rPI, rPJ, g1, g2, g3, g4, g5, g6, g7, g8, Nat.reduceEqDiff, Nat.reduceAdd, false_and, and_false, true_and, and_true, reduceIte, nZ0, nZ1, fun a k => (jτ39 a k).1, fun a k => (jτ39 a k).2, pτ39, obτ39]) <;> first | rfl | omega | grind) (by (try simp only [rII, rIJ, rIP, rJJ, rJI, rJP, rPP, rPI, rPJ, g1, g2, g3, g4, g5, g6, g7, g8, Nat.reduceEqDiff, Nat.reduceAdd, false_and, and_false, true_and, and_true, reduceIte, nZ0, nZ1, fun a k => (jτ39 a k).1, fun a k => (jτ39 a k).2, pτ39, obτ39]) <;> (repeat' split) <;> first | rfl | omega | grind) (by (try simp only [rII, rIJ, rIP, rJJ, rJI, rJP, rPP, rPI, rPJ, g1, g2, g3, g4, g5, g6, g7, g8, Nat.reduceEqDiff, Nat.reduceAdd, false_and, and_false, true_and, and_true, reduceIte, nZ0, nZ1, fun a k => (jτ39 a k).1, fun a k => (jτ39 a k).2, pτ39, obτ39]) <;> (repeat' split) <;> first | rfl | omega | grind) (by (try simp only [rII, rIJ, rIP, rJJ, rJI, rJP, rPP, rPI, rPJ, g1, g2, g3, g4, g5, g6, g7, g8, Nat.reduceEqDiff, Nat.reduceAdd, false_and, and_false, true_and, and_true, reduceIte, nZ0, nZ1, fun a k => (jτ39 a k).1, fun a k => (jτ39 a k).2, pτ39, obτ39]) <;> (repeat' split) <;> first | rfl | omega | grind), by (try simp only [rII, rIJ, rIP, rJJ, rJI, rJP, rPP, rPI, rPJ, g1, g2, g3, g4, g5, g6, g7, g8, Nat.reduceEqDiff, Nat.reduceAdd, false_and, and_false, true_and, and_true, reduceIte, nZ0, nZ1, fun a k => (jτ39 a k).1, fun a k => (jτ39 a k).2, pτ39, obτ39]) <;> omega, by (try simp only [rII, rIJ, rIP, rJJ, rJI, rJP, rPP, rPI, rPJ, g1, g2, g3, g4, g5, g6, g7, g8, Nat.reduceEqDiff, Nat.reduceAdd, false_and, and_false, true_and, and_true, reduceIte, nZ0, nZ1, fun a k => (jτ39 a k).1, fun a k => (jτ39 a k).2, pτ39, obτ39]) <;> omega, HeE.fr (jx := jx) (K := [99, 100, 101, 102, 103, 104, 106]) (S := []) a5 (by repeat (first | exact Fr.rf | assumption | refine Fr.aJ g ?_ (by decide) | refine Fr.aI g ?_ (by decide) | refine Fr.sI g ?_ (by decide) | refine Fr.sJ g ?_ (by decide))) (by decide) (by decide), by omega, by omega⟩
  refine ⟨_, L39 _ _ _ ?_ ?_ ?_ (Nat.lt_succ_self _)⟩
  · refine Rg.aI g ?_ (by simp only [rgT]; first | with_reducible exact nZ_rng _ | with_reducible exact nB_rng _ | with_reducible exact wr_rng _ | with_reducible exact i32any _ | (first | omega | with_reducible assumption | (unfold rng; omega) | (unfold rng; (repeat' split) <;> omega) | grind)); refine Rg.aI g ?_ (by simp only [rgT]; first | with_reducible exact nZ_rng _ | with_reducible exact nB_rng _ | with_reducible exact wr_rng _ | with_reducible exact i32any _ | (first | omega | with_reducible assumption | (unfold rng; omega) | (unfold rng; (repeat' split) <;> omega) | grind)); refine Rg.sI g ?_ (by simp only [rgS]; first | with_reducible exact nZ_rng _ | with_reducible exact nB_rng _ | with_reducible exact wr_rng _ | with_reducible exact i32any _ | (first | omega | with_reducible assumption | (unfold rng; omega) | (unfold rng; (repeat' split) <;> omega) | grind)); refine Rg.sI g ?_ (by simp only [rgS]; first | with_reducible exact nZ_rng _ | with_reducible exact nB_rng _ | with_reducible exact wr_rng _ | with_reducible exact i32any _ | (first | omega | with_reducible assumption | (unfold rng; omega) | (unfold rng; (repeat' split) <;> omega) | grind)); exact rσ
  · refine Fr.aI g ?_ (by decide); refine Fr.aI g ?_ (by decide); refine Fr.sI g ?_ (by decide); refine Fr.sI g ?_ (by decide); exact fσ
  · first | exact ⟨fun i hi => b1 i (by omega), b2, by omega, by omega, b5, by omega, by omega⟩ | exact ⟨fun i hi => absurd hi (by omega), fun i hi => MkC.eq (hmk.2 i hi) (by funext a9; (try simp only [rII, rIJ, rIP, rJJ, rJI, rJP, rPP, rPI, rPJ, g1, g2, g3, g4, g5, g6, g7, g8, Nat.reduceEqDiff, Nat.reduceAdd, false_and, and_false, true_and, and_true, reduceIte, nZ0, nZ1]) <;> first | rfl | omega | grind) (by funext a9; (try simp only [rII, rIJ, rIP, rJJ, rJI, rJP, rPP, rPI, rPJ, g1, g2, g3, g4, g5, g6, g7, g8, Nat.reduceEqDiff, Nat.reduceAdd, false_and, and_false, true_and, and_true, reduceIte, nZ0, nZ1]) <;> first | rfl | omega | grind) (by (try simp only [rII, rIJ, rIP, rJJ, rJI, rJP, rPP, rPI, rPJ, g1, g2, g3, g4, g5, g6, g7, g8, Nat.reduceEqDiff, Nat.reduceAdd, false_and, and_false, true_and, and_true, reduceIte, nZ0, nZ1]) <;> (repeat' split) <;> first | rfl | omega | grind) (by (try simp only [rII, rIJ, rIP, rJJ, rJI, rJP, rPP, rPI, rPJ, g1, g2, g3, g4, g5, g6, g7, g8, Nat.reduceEqDiff, Nat.reduceAdd, false_and, and_false, true_and, and_true, reduceIte, nZ0, nZ1]) <;> (repeat' split) <;> first | rfl | omega | grind) (by (try simp only [rII, rIJ, rIP, rJJ, rJI, rJP, rPP, rPI, rPJ, g1, g2, g3, g4, g5, g6, g7, g8, Nat.reduceEqDiff, Nat.reduceAdd, false_and, and_false, true_and, and_true, reduceIte, nZ0, nZ1]) <;> (repeat' split) <;> first | rfl | omega | grind), by (try simp only [rII, rIJ, rIP, rJJ, rJI, rJP, rPP, rPI, rPJ, g1, g2, g3, g4, g5, g6, g7, g8, Nat.reduceEqDiff, Nat.reduceAdd, false_and, and_false, true_and, and_true, reduceIte, nZ0, nZ1]), by (try simp only [rII, rIJ, rIP, rJJ, rJI, rJP, rPP, rPI, rPJ, g1, g2, g3, g4, g5, g6, g7, g8, Nat.reduceEqDiff, Nat.reduceAdd, false_and, and_false, true_and, and_true, reduceIte, nZ0, nZ1]), HeE.fr (jx := jx) (K := [97, 98]) (S := [92, 93]) hhe (by repeat (first | exact Fr.rf | assumption | refine Fr.aJ g ?_ (by decide) | refine Fr.aI g ?_ (by decide) | refine Fr.sI g ?_ (by decide) | refine Fr.sJ g ?_ (by decide))) (by decide) (by decide), by omega, by omega⟩
set_option maxHeartbeats 4000000 in
theorem s_X16_part {ra : Nat → Nat} {jx : Nat → Nat → Nat} {rm : Nat} {ja : Nat} (g : Geo ra jx rm) {σ : Sg} {v1 : Int} (rσ : Rg ra jx rm σ) (hj : gP σ rm 17 = some ja) (hja : ja = ra 15 ∨ ja = ra 16) (hre : RecE ra jx rm ja σ) (hmk : MkI ra jx ja σ) (hhe : HeE ra rm σ) (h1 : 0 ≤ v1 ∧ v1 < 64) (hjo : JobOK jx ja σ) (hto : gI σ (ra 38) v1.toNat < gI σ ja 0) {Q : Sg → Unit → Prop} {X : Sg → String → Prop} (hQ : ∀ (σ' : Sg) (r : Unit), Rg ra jx rm σ' → Fr ra jx rm [44, 86, 87, 88, 89, 97, 98, 99, 100, 101, 102, 103, 104, 105, 106, 107, 108, 109] [32, 92, 93, 96] σ σ' → (MkI ra jx ja σ' ∧ HeE ra rm σ') → Q σ' r) (hX : ∀ (σ' : Sg) (E : String), Rg ra jx rm σ' → Fr ra jx rm [44, 86, 87, 88, 89, 97, 98, 99, 100, 101, 102, 103, 104, 105, 106, 107, 108, 109] [32, 92, 93, 96] σ σ' → (E = "StreamHouseModel$Broken" ∧ MkI ra jx ja σ' ∧ HeE ra rm σ') → X σ' E) : wp_X16_part ra jx rm v1 σ Q X := by
  obtain ⟨g1, g2, g3, g4, g5, g6, g7, g8⟩ := id g
  have fσ : Fr ra jx rm [44, 86, 87, 88, 89, 97, 98, 99, 100, 101, 102, 103, 104, 105, 106, 107, 108, 109] [32, 92, 93, 96] σ σ := Fr.rf
  have hoo := rσ.1 38 v1.toNat; simp only [rgT] at hoo
  have hco := hjo.1
  unfold wp_X16_part
  unfold w_X16_part_0
  try simp only [forall_eq, rII, rIJ, rIP, rJJ, rJI, rJP, rPP, rPI, rPJ, g1, g2, g3, g4, g5, g6, g7, g8, Nat.reduceEqDiff, Nat.reduceAdd, false_and, and_false, true_and, and_true, reduceIte, nZ0, nZ1]
  refine ⟨by (first | omega | with_reducible assumption | (unfold rng; omega) | (unfold rng; (repeat' split) <;> omega) | grind), ?_⟩
  have q1 := rσ.1 98 1; simp only [rgT] at q1
  have q2 := rσ.1 78 (v1.toNat); simp only [rgT] at q2
  refine ⟨by (first | omega | with_reducible assumption | (unfold rng; omega) | (unfold rng; (repeat' split) <;> omega) | grind), ?_⟩
  split
  · rename_i hc16
    skip
    unfold w_X16_part_24
    try simp only [forall_eq, rII, rIJ, rIP, rJJ, rJI, rJP, rPP, rPI, rPJ, g1, g2, g3, g4, g5, g6, g7, g8, Nat.reduceEqDiff, Nat.reduceAdd, false_and, and_false, true_and, and_true, reduceIte, nZ0, nZ1]
    refine s_X16_write g rσ (fun σ21 _ rσ21 fc p3 => ?_) (fun σx E rx fx px => hX _ _ rx (Fr.tr fσ (Fr.mor (fx) (by decide) (by decide))) ⟨px, MkI.fr hmk fx (by decide), HeE.fr hhe fx (by decide) (by decide)⟩)
    have fσ21 : Fr ra jx rm [44, 86, 87, 88, 89, 97, 98, 99, 100, 101, 102, 103, 104, 105, 106, 107, 108, 109] [32, 92, 93, 96] σ σ21 := Fr.tr fσ (Fr.mor (fc) (by decide) (by decide))
    have fw := fc
    have m9 := MkI.fr hmk fc (by decide)
    have e9 := HeE.fr hhe fc (by decide) (by decide)
    have w98 := (fc.1 98 (by decide)).1
    have w78 := (fc.1 78 (by decide)).1
    have eσ21_38 := fσ21.1 38 (by decide)
    have eσ21_78 := fσ21.1 78 (by decide)
    have sσ21_36 := fσ21.2.1 36 (by decide)
    have jσ21 := fσ21.2.2.1
    have pσ21 := fσ21.2.2.2
    have obσ21 := Fr.ob fσ21 hja (by decide)
    try simp only [forall_eq, rII, rIJ, rIP, rJJ, rJI, rJP, rPP, rPI, rPJ, g1, g2, g3, g4, g5, g6, g7, g8, Nat.reduceEqDiff, Nat.reduceAdd, false_and, and_false, true_and, and_true, reduceIte, nZ0, nZ1, eσ21_38.1, eσ21_38.2, eσ21_78.1, eσ21_78.2, sσ21_36.1, sσ21_36.2, fun a k => (jσ21 a k).1, fun a k => (jσ21 a k).2, pσ21, obσ21]
    refine s_X16_keepPart (ja := ja) g rσ21 (RecE.fr hre fw (by decide) (by decide)) (MkI.fr hmk fw (by decide)) (by (try simp only [rII, rIJ, rIP, rJJ, rJI, rJP, rPP, rPI, rPJ, g1, g2, g3, g4, g5, g6, g7, g8, Nat.reduceEqDiff, Nat.reduceAdd, false_and, and_false, true_and, and_true, reduceIte, nZ0, nZ1, eσ21_38.1, eσ21_38.2, eσ21_78.1, eσ21_78.2, sσ21_36.1, sσ21_36.2, fun a k => (jσ21 a k).1, fun a k => (jσ21 a k).2, pσ21, obσ21]) <;> (first | omega | with_reducible assumption | (unfold rng; omega) | (unfold rng; (repeat' split) <;> omega) | grind)) (by rw [w98, w78]; omega) (fun σ22 _ rσ22 fc p4 => ?_)
    have fσ22 : Fr ra jx rm [44, 86, 87, 88, 89, 97, 98, 99, 100, 101, 102, 103, 104, 105, 106, 107, 108, 109] [32, 92, 93, 96] σ σ22 := Fr.tr fσ21 (Fr.mor (fc) (by decide) (by decide))
    have m9 := p4.1
    have e9 := HeE.fr e9 fc (by decide) (by decide)
    have eσ22_38 := fσ22.1 38 (by decide)
    have eσ22_78 := fσ22.1 78 (by decide)
    have sσ22_36 := fσ22.2.1 36 (by decide)
    have jσ22 := fσ22.2.2.1
    have pσ22 := fσ22.2.2.2
    have obσ22 := Fr.ob fσ22 hja (by decide)
    try simp only [forall_eq, rII, rIJ, rIP, rJJ, rJI, rJP, rPP, rPI, rPJ, g1, g2, g3, g4, g5, g6, g7, g8, Nat.reduceEqDiff, Nat.reduceAdd, false_and, and_false, true_and, and_true, reduceIte, nZ0, nZ1, eσ22_38.1, eσ22_38.2, eσ22_78.1, eσ22_78.2, sσ22_36.1, sσ22_36.2, fun a k => (jσ22 a k).1, fun a k => (jσ22 a k).2, pσ22, obσ22]
    refine ⟨by (first | omega | with_reducible assumption | (unfold rng; omega) | (unfold rng; (repeat' split) <;> omega) | grind), ?_⟩
    refine ⟨ja, by exact hj, hja, ?_⟩
    have q5 := rσ.1 38 (v1.toNat); simp only [rgT] at q5
    refine ⟨by (first | omega | with_reducible assumption | (unfold rng; omega) | (unfold rng; (repeat' split) <;> omega) | grind), ?_⟩
    have q6 := rσ.2.2.1 ja 2 ((gI σ (ra 38) v1.toNat).toNat); simp only [rgJ] at q6
    split
    · rename_i hc51
      skip
      unfold w_X16_part_74
      try simp only [forall_eq, rII, rIJ, rIP, rJJ, rJI, rJP, rPP, rPI, rPJ, g1, g2, g3, g4, g5, g6, g7, g8, Nat.reduceEqDiff, Nat.reduceAdd, false_and, and_false, true_and, and_true, reduceIte, nZ0, nZ1, eσ22_38.1, eσ22_38.2, eσ22_78.1, eσ22_78.2, sσ22_36.1, sσ22_36.2, fun a k => (jσ22 a k).1, fun a k => (jσ22 a k).2, pσ22, obσ22]
      have q7 := rσ.2.1 36; simp only [rgS] at q7
      have L79 : ∀ (fu79 : Nat) (v3 : Int) (v4 : Int), (MkI ra jx ja σ22 ∧ HeE ra rm σ22 ∧ 0 ≤ v4 ∧ v4 ≤ gI σ rm 36 ∧ (v3 = 0 ∨ v3 = 1)) → ((gI σ rm 36 - v4).toNat) < fu79 → wl_X16_part_79 ra jx rm Q X fu79 σ22 v3 v4 := by
        intro fu79
        induction fu79 with
        | zero => intro  _ _ _ h9; omega
        | succ fu79 ih79 =>
          intro v3 v4 hi79 hm79
          unfold wl_X16_part_79
          unfold w_X16_part_79
          try simp only [forall_eq, rII, rIJ, rIP, rJJ, rJI, rJP, rPP, rPI, rPJ, g1, g2, g3, g4, g5, g6, g7, g8, Nat.reduceEqDiff, Nat.reduceAdd, false_and, and_false, true_and, and_true, reduceIte, nZ0, nZ1, eσ22_38.1, eσ22_38.2, eσ22_78.1, eσ22_78.2, sσ22_36.1, sσ22_36.2, fun a k => (jσ22 a k).1, fun a k => (jσ22 a k).2, pσ22, obσ22]
          obtain ⟨m9, e9, k1, k2, k3⟩ := hi79
          split
          · rename_i hc85
            skip
            unfold w_X16_part_114
            try simp only [forall_eq, rII, rIJ, rIP, rJJ, rJI, rJP, rPP, rPI, rPJ, g1, g2, g3, g4, g5, g6, g7, g8, Nat.reduceEqDiff, Nat.reduceAdd, false_and, and_false, true_and, and_true, reduceIte, nZ0, nZ1, eσ22_38.1, eσ22_38.2, eσ22_78.1, eσ22_78.2, sσ22_36.1, sσ22_36.2, fun a k => (jσ22 a k).1, fun a k => (jσ22 a k).2, pσ22, obσ22]
            split
            · rename_i hc115
              skip
              unfold w_X16_part_126
              try simp only [forall_eq, rII, rIJ, rIP, rJJ, rJI, rJP, rPP, rPI, rPJ, g1, g2, g3, g4, g5, g6, g7, g8, Nat.reduceEqDiff, Nat.reduceAdd, false_and, and_false, true_and, and_true, reduceIte, nZ0, nZ1, eσ22_38.1, eσ22_38.2, eσ22_78.1, eσ22_78.2, sσ22_36.1, sσ22_36.2, fun a k => (jσ22 a k).1, fun a k => (jσ22 a k).2, pσ22, obσ22]
              refine hQ _ _ ?_ ?_ ?_
              · exact rσ22
              · exact fσ22
              · exact ⟨m9, e9⟩
            · rename_i hc115
              skip
              unfold w_X16_part_118
              try simp only [forall_eq, rII, rIJ, rIP, rJJ, rJI, rJP, rPP, rPI, rPJ, g1, g2, g3, g4, g5, g6, g7, g8, Nat.reduceEqDiff, Nat.reduceAdd, false_and, and_false, true_and, and_true, reduceIte, nZ0, nZ1, eσ22_38.1, eσ22_38.2, eσ22_78.1, eσ22_78.2, sσ22_36.1, sσ22_36.2, fun a k => (jσ22 a k).1, fun a k => (jσ22 a k).2, pσ22, obσ22]
              refine s_X16_write g rσ22 (fun σ24 _ rσ24 fc p8 => ?_) (fun σx E rx fx px => hX _ _ rx (Fr.tr fσ22 (Fr.mor (fx) (by decide) (by decide))) ⟨px, MkI.fr m9 fx (by decide), HeE.fr e9 fx (by decide) (by decide)⟩)
              have fσ24 : Fr ra jx rm [44, 86, 87, 88, 89, 97, 98, 99, 100, 101, 102, 103, 104, 105, 106, 107, 108, 109] [32, 92, 93, 96] σ σ24 := Fr.tr fσ22 (Fr.mor (fc) (by decide) (by decide))
              have m9 := MkI.fr m9 fc (by decide)
              have e9 := HeE.fr e9 fc (by decide) (by decide)
              have eσ24_38 := fσ24.1 38 (by decide)
              have eσ24_78 := fσ24.1 78 (by decide)
              have sσ24_36 := fσ24.2.1 36 (by decide)
              have jσ24 := fσ24.2.2.1
              have pσ24 := fσ24.2.2.2
              have obσ24 := Fr.ob fσ24 hja (by decide)
              try simp only [forall_eq, rII, rIJ, rIP, rJJ, rJI, rJP, rPP, rPI, rPJ, g1, g2, g3, g4, g5, g6, g7, g8, Nat.reduceEqDiff, Nat.reduceAdd, false_and, and_false, true_and, and_true, reduceIte, nZ0, nZ1, eσ24_38.1, eσ24_38.2, eσ24_78.1, eσ24_78.2, sσ24_36.1, sσ24_36.2, fun a k => (jσ24 a k).1, fun a k => (jσ24 a k).2, pσ24, obσ24]
              refine s_X16_seal g rσ24 (by first | exact hj | (rw [fσ24.2.2.2]; exact hj)) hja m9 e9 (by unfold cO; (try simp only [rII, rIJ, rIP, rJJ, rJI, rJP, rPP, rPI, rPJ, g1, g2, g3, g4, g5, g6, g7, g8, Nat.reduceEqDiff, Nat.reduceAdd, false_and, and_false, true_and, and_true, reduceIte, nZ0, nZ1, eσ24_38.1, eσ24_38.2, eσ24_78.1, eσ24_78.2, sσ24_36.1, sσ24_36.2, fun a k => (jσ24 a k).1, fun a k => (jσ24 a k).2, pσ24, obσ24]) <;> exact hco) (fun σ25 _ rσ25 fc p9 => ?_)
              have fσ25 : Fr ra jx rm [44, 86, 87, 88, 89, 97, 98, 99, 100, 101, 102, 103, 104, 105, 106, 107, 108, 109] [32, 92, 93, 96] σ σ25 := Fr.tr fσ24 (Fr.mor (fc) (by decide) (by decide))
              have m9 := p9.1
              have e9 := p9.2
              have eσ25_38 := fσ25.1 38 (by decide)
              have eσ25_78 := fσ25.1 78 (by decide)
              have sσ25_36 := fσ25.2.1 36 (by decide)
              have jσ25 := fσ25.2.2.1
              have pσ25 := fσ25.2.2.2
              have obσ25 := Fr.ob fσ25 hja (by decide)
              try simp only [forall_eq, rII, rIJ, rIP, rJJ, rJI, rJP, rPP, rPI, rPJ, g1, g2, g3, g4, g5, g6, g7, g8, Nat.reduceEqDiff, Nat.reduceAdd, false_and, and_false, true_and, and_true, reduceIte, nZ0, nZ1, eσ25_38.1, eσ25_38.2, eσ25_78.1, eσ25_78.2, sσ25_36.1, sσ25_36.2, fun a k => (jσ25 a k).1, fun a k => (jσ25 a k).2, pσ25, obσ25]
              unfold w_X16_part_126
              try simp only [forall_eq, rII, rIJ, rIP, rJJ, rJI, rJP, rPP, rPI, rPJ, g1, g2, g3, g4, g5, g6, g7, g8, Nat.reduceEqDiff, Nat.reduceAdd, false_and, and_false, true_and, and_true, reduceIte, nZ0, nZ1, eσ25_38.1, eσ25_38.2, eσ25_78.1, eσ25_78.2, sσ25_36.1, sσ25_36.2, fun a k => (jσ25 a k).1, fun a k => (jσ25 a k).2, pσ25, obσ25]
              refine hQ _ _ ?_ ?_ ?_
              · exact rσ25
              · exact fσ25
              · exact ⟨m9, e9⟩
          · rename_i hc85
            skip
            unfold w_X16_part_88
            try simp only [forall_eq, rII, rIJ, rIP, rJJ, rJI, rJP, rPP, rPI, rPJ, g1, g2, g3, g4, g5, g6, g7, g8, Nat.reduceEqDiff, Nat.reduceAdd, false_and, and_false, true_and, and_true, reduceIte, nZ0, nZ1, eσ22_38.1, eσ22_38.2, eσ22_78.1, eσ22_78.2, sσ22_36.1, sσ22_36.2, fun a k => (jσ22 a k).1, fun a k => (jσ22 a k).2, pσ22, obσ22]
            split
            · rename_i hc89
              skip
              unfold w_X16_part_106
              try simp only [forall_eq, rII, rIJ, rIP, rJJ, rJI, rJP, rPP, rPI, rPJ, g1, g2, g3, g4, g5, g6, g7, g8, Nat.reduceEqDiff, Nat.reduceAdd, false_and, and_false, true_and, and_true, reduceIte, nZ0, nZ1, eσ22_38.1, eσ22_38.2, eσ22_78.1, eσ22_78.2, sσ22_36.1, sσ22_36.2, fun a k => (jσ22 a k).1, fun a k => (jσ22 a k).2, pσ22, obσ22]
              unfold w_X16_part_107
              try simp only [forall_eq, rII, rIJ, rIP, rJJ, rJI, rJP, rPP, rPI, rPJ, g1, g2, g3, g4, g5, g6, g7, g8, Nat.reduceEqDiff, Nat.reduceAdd, false_and, and_false, true_and, and_true, reduceIte, nZ0, nZ1, eσ22_38.1, eσ22_38.2, eσ22_78.1, eσ22_78.2, sσ22_36.1, sσ22_36.2, fun a k => (jσ22 a k).1, fun a k => (jσ22 a k).2, pσ22, obσ22]
              refine ⟨by (first | omega | with_reducible assumption | (unfold rng; omega) | (unfold rng; (repeat' split) <;> omega) | grind), ?_⟩
              refine ih79 _ _ ?_ ?_
              · exact ⟨m9, e9, by omega, by omega, by omega⟩
              · (try simp only [rII, rIJ, rIP, rJJ, rJI, rJP, rPP, rPI, rPJ, g1, g2, g3, g4, g5, g6, g7, g8, Nat.reduceEqDiff, Nat.reduceAdd, false_and, and_false, true_and, and_true, reduceIte, nZ0, nZ1, eσ22_38.1, eσ22_38.2, eσ22_78.1, eσ22_78.2, sσ22_36.1, sσ22_36.2, fun a k => (jσ22 a k).1, fun a k => (jσ22 a k).2, pσ22, obσ22]) <;> (first | omega | with_reducible assumption | (unfold rng; omega) | (unfold rng; (repeat' split) <;> omega) | grind)
            · rename_i hc89
              skip
              unfold w_X16_part_92
              try simp only [forall_eq, rII, rIJ, rIP, rJJ, rJI, rJP, rPP, rPI, rPJ, g1, g2, g3, g4, g5, g6, g7, g8, Nat.reduceEqDiff, Nat.reduceAdd, false_and, and_false, true_and, and_true, reduceIte, nZ0, nZ1, eσ22_38.1, eσ22_38.2, eσ22_78.1, eσ22_78.2, sσ22_36.1, sσ22_36.2, fun a k => (jσ22 a k).1, fun a k => (jσ22 a k).2, pσ22, obσ22]
              refine ⟨by (first | omega | with_reducible assumption | (unfold rng; omega) | (unfold rng; (repeat' split) <;> omega) | grind), ?_⟩
              have q10 := rσ22.1 44 (v4.toNat); simp only [rgT] at q10
              split
              · rename_i hc99
                skip
                unfold w_X16_part_106
                try simp only [forall_eq, rII, rIJ, rIP, rJJ, rJI, rJP, rPP, rPI, rPJ, g1, g2, g3, g4, g5, g6, g7, g8, Nat.reduceEqDiff, Nat.reduceAdd, false_and, and_false, true_and, and_true, reduceIte, nZ0, nZ1, eσ22_38.1, eσ22_38.2, eσ22_78.1, eσ22_78.2, sσ22_36.1, sσ22_36.2, fun a k => (jσ22 a k).1, fun a k => (jσ22 a k).2, pσ22, obσ22]
                unfold w_X16_part_107
                try simp only [forall_eq, rII, rIJ, rIP, rJJ, rJI, rJP, rPP, rPI, rPJ, g1, g2, g3, g4, g5, g6, g7, g8, Nat.reduceEqDiff, Nat.reduceAdd, false_and, and_false, true_and, and_true, reduceIte, nZ0, nZ1, eσ22_38.1, eσ22_38.2, eσ22_78.1, eσ22_78.2, sσ22_36.1, sσ22_36.2, fun a k => (jσ22 a k).1, fun a k => (jσ22 a k).2, pσ22, obσ22]
                refine ⟨by (first | omega | with_reducible assumption | (unfold rng; omega) | (unfold rng; (repeat' split) <;> omega) | grind), ?_⟩
                refine ih79 _ _ ?_ ?_
                · exact ⟨m9, e9, by omega, by omega, by omega⟩
                · (try simp only [rII, rIJ, rIP, rJJ, rJI, rJP, rPP, rPI, rPJ, g1, g2, g3, g4, g5, g6, g7, g8, Nat.reduceEqDiff, Nat.reduceAdd, false_and, and_false, true_and, and_true, reduceIte, nZ0, nZ1, eσ22_38.1, eσ22_38.2, eσ22_78.1, eσ22_78.2, sσ22_36.1, sσ22_36.2, fun a k => (jσ22 a k).1, fun a k => (jσ22 a k).2, pσ22, obσ22]) <;> (first | omega | with_reducible assumption | (unfold rng; omega) | (unfold rng; (repeat' split) <;> omega) | grind)
              · rename_i hc99
                skip
                unfold w_X16_part_102
                try simp only [forall_eq, rII, rIJ, rIP, rJJ, rJI, rJP, rPP, rPI, rPJ, g1, g2, g3, g4, g5, g6, g7, g8, Nat.reduceEqDiff, Nat.reduceAdd, false_and, and_false, true_and, and_true, reduceIte, nZ0, nZ1, eσ22_38.1, eσ22_38.2, eσ22_78.1, eσ22_78.2, sσ22_36.1, sσ22_36.2, fun a k => (jσ22 a k).1, fun a k => (jσ22 a k).2, pσ22, obσ22]
                unfold w_X16_part_107
                try simp only [forall_eq, rII, rIJ, rIP, rJJ, rJI, rJP, rPP, rPI, rPJ, g1, g2, g3, g4, g5, g6, g7, g8, Nat.reduceEqDiff, Nat.reduceAdd, false_and, and_false, true_and, and_true, reduceIte, nZ0, nZ1, eσ22_38.1, eσ22_38.2, eσ22_78.1, eσ22_78.2, sσ22_36.1, sσ22_36.2, fun a k => (jσ22 a k).1, fun a k => (jσ22 a k).2, pσ22, obσ22]
                refine ⟨by (first | omega | with_reducible assumption | (unfold rng; omega) | (unfold rng; (repeat' split) <;> omega) | grind), ?_⟩
                refine ih79 _ _ ?_ ?_
                · exact ⟨m9, e9, by omega, by omega, by omega⟩
                · (try simp only [rII, rIJ, rIP, rJJ, rJI, rJP, rPP, rPI, rPJ, g1, g2, g3, g4, g5, g6, g7, g8, Nat.reduceEqDiff, Nat.reduceAdd, false_and, and_false, true_and, and_true, reduceIte, nZ0, nZ1, eσ22_38.1, eσ22_38.2, eσ22_78.1, eσ22_78.2, sσ22_36.1, sσ22_36.2, fun a k => (jσ22 a k).1, fun a k => (jσ22 a k).2, pσ22, obσ22]) <;> (first | omega | with_reducible assumption | (unfold rng; omega) | (unfold rng; (repeat' split) <;> omega) | grind)
      refine ⟨_, L79 _ _ _ ?_ (Nat.lt_succ_self _)⟩
      · exact ⟨m9, e9, by omega, by omega, by omega⟩
    · rename_i hc51
      skip
      unfold w_X16_part_54
      try simp only [forall_eq, rII, rIJ, rIP, rJJ, rJI, rJP, rPP, rPI, rPJ, g1, g2, g3, g4, g5, g6, g7, g8, Nat.reduceEqDiff, Nat.reduceAdd, false_and, and_false, true_and, and_true, reduceIte, nZ0, nZ1, eσ22_38.1, eσ22_38.2, eσ22_78.1, eσ22_78.2, sσ22_36.1, sσ22_36.2, fun a k => (jσ22 a k).1, fun a k => (jσ22 a k).2, pσ22, obσ22]
      refine s_X16_outputOf g rσ22 (by first | exact hj | (rw [fσ22.2.2.2]; exact hj)) hja (by (try simp only [rII, rIJ, rIP, rJJ, rJI, rJP, rPP, rPI, rPJ, g1, g2, g3, g4, g5, g6, g7, g8, Nat.reduceEqDiff, Nat.reduceAdd, false_and, and_false, true_and, and_true, reduceIte, nZ0, nZ1, eσ22_38.1, eσ22_38.2, eσ22_78.1, eσ22_78.2, sσ22_36.1, sσ22_36.2, fun a k => (jσ22 a k).1, fun a k => (jσ22 a k).2, pσ22, obσ22]) <;> (first | omega | with_reducible assumption | (unfold rng; omega) | (unfold rng; (repeat' split) <;> omega) | grind)) (fun r27 p11 => ?_)
      try simp only [forall_eq, rII, rIJ, rIP, rJJ, rJI, rJP, rPP, rPI, rPJ, g1, g2, g3, g4, g5, g6, g7, g8, Nat.reduceEqDiff, Nat.reduceAdd, false_and, and_false, true_and, and_true, reduceIte, nZ0, nZ1, eσ22_38.1, eσ22_38.2, eσ22_78.1, eσ22_78.2, sσ22_36.1, sσ22_36.2, fun a k => (jσ22 a k).1, fun a k => (jσ22 a k).2, pσ22, obσ22]
      have c9 := cO_succ (jx := jx) (ja := ja) (σ := σ) (n := (gI σ (ra 38) v1.toNat)) (by omega)
      have c8 := cO_mono (jx := jx) (ja := ja) (σ := σ) (n := (gI σ (ra 38) v1.toNat) + 1) (m := gI σ ja 0) (by omega) (by omega)
      have p9 := p11.1
      rw [show cO jx ja _ (gI σ (ra 38) v1.toNat) = cO jx ja σ (gI σ (ra 38) v1.toNat) from by unfold cO; simp only [rII, rIJ, rIP, rJJ, rJI, rJP, rPP, rPI, rPJ, g1, g2, g3, g4, g5, g6, g7, g8, Nat.reduceEqDiff, Nat.reduceAdd, false_and, and_false, true_and, and_true, reduceIte, nZ0, nZ1, eσ22_38.1, eσ22_38.2, eσ22_78.1, eσ22_78.2, sσ22_36.1, sσ22_36.2, fun a k => (jσ22 a k).1, fun a k => (jσ22 a k).2, pσ22, obσ22]] at p9
      refine ⟨by (first | omega | with_reducible assumption | (unfold rng; omega) | (unfold rng; (repeat' split) <;> omega) | grind), ?_⟩
      refine s_X16_outputOf g rσ22 (by first | exact hj | (rw [fσ22.2.2.2]; exact hj)) hja (by (try simp only [rII, rIJ, rIP, rJJ, rJI, rJP, rPP, rPI, rPJ, g1, g2, g3, g4, g5, g6, g7, g8, Nat.reduceEqDiff, Nat.reduceAdd, false_and, and_false, true_and, and_true, reduceIte, nZ0, nZ1, eσ22_38.1, eσ22_38.2, eσ22_78.1, eσ22_78.2, sσ22_36.1, sσ22_36.2, fun a k => (jσ22 a k).1, fun a k => (jσ22 a k).2, pσ22, obσ22]) <;> (first | omega | with_reducible assumption | (unfold rng; omega) | (unfold rng; (repeat' split) <;> omega) | grind)) (fun r29 p12 => ?_)
      try simp only [forall_eq, rII, rIJ, rIP, rJJ, rJI, rJP, rPP, rPI, rPJ, g1, g2, g3, g4, g5, g6, g7, g8, Nat.reduceEqDiff, Nat.reduceAdd, false_and, and_false, true_and, and_true, reduceIte, nZ0, nZ1, eσ22_38.1, eσ22_38.2, eσ22_78.1, eσ22_78.2, sσ22_36.1, sσ22_36.2, fun a k => (jσ22 a k).1, fun a k => (jσ22 a k).2, pσ22, obσ22]
      have c9 := cO_succ (jx := jx) (ja := ja) (σ := σ) (n := (gI σ (ra 38) v1.toNat)) (by omega)
      have c8 := cO_mono (jx := jx) (ja := ja) (σ := σ) (n := (gI σ (ra 38) v1.toNat) + 1) (m := gI σ ja 0) (by omega) (by omega)
      have p9 := p12.1
      rw [show cO jx ja _ (gI σ (ra 38) v1.toNat) = cO jx ja σ (gI σ (ra 38) v1.toNat) from by unfold cO; simp only [rII, rIJ, rIP, rJJ, rJI, rJP, rPP, rPI, rPJ, g1, g2, g3, g4, g5, g6, g7, g8, Nat.reduceEqDiff, Nat.reduceAdd, false_and, and_false, true_and, and_true, reduceIte, nZ0, nZ1, eσ22_38.1, eσ22_38.2, eσ22_78.1, eσ22_78.2, sσ22_36.1, sσ22_36.2, fun a k => (jσ22 a k).1, fun a k => (jσ22 a k).2, pσ22, obσ22]] at p9
      refine ⟨by (first | omega | with_reducible assumption | (unfold rng; omega) | (unfold rng; (repeat' split) <;> omega) | grind), ?_⟩
      refine ⟨by (first | omega | with_reducible assumption | (unfold rng; omega) | (unfold rng; (repeat' split) <;> omega) | grind), ?_⟩
      refine s_X16_passOn g rσ22 e9 (by (try simp only [rII, rIJ, rIP, rJJ, rJI, rJP, rPP, rPI, rPJ, g1, g2, g3, g4, g5, g6, g7, g8, Nat.reduceEqDiff, Nat.reduceAdd, false_and, and_false, true_and, and_true, reduceIte, nZ0, nZ1, eσ22_38.1, eσ22_38.2, eσ22_78.1, eσ22_78.2, sσ22_36.1, sσ22_36.2, fun a k => (jσ22 a k).1, fun a k => (jσ22 a k).2, pσ22, obσ22]) <;> (first | omega | with_reducible assumption | (unfold rng; omega) | (unfold rng; (repeat' split) <;> omega) | grind)) (by (try simp only [rII, rIJ, rIP, rJJ, rJI, rJP, rPP, rPI, rPJ, g1, g2, g3, g4, g5, g6, g7, g8, Nat.reduceEqDiff, Nat.reduceAdd, false_and, and_false, true_and, and_true, reduceIte, nZ0, nZ1, eσ22_38.1, eσ22_38.2, eσ22_78.1, eσ22_78.2, sσ22_36.1, sσ22_36.2, fun a k => (jσ22 a k).1, fun a k => (jσ22 a k).2, pσ22, obσ22]) <;> (first | omega | with_reducible assumption | (unfold rng; omega) | (unfold rng; (repeat' split) <;> omega) | grind)) (by (try simp only [rII, rIJ, rIP, rJJ, rJI, rJP, rPP, rPI, rPJ, g1, g2, g3, g4, g5, g6, g7, g8, Nat.reduceEqDiff, Nat.reduceAdd, false_and, and_false, true_and, and_true, reduceIte, nZ0, nZ1, eσ22_38.1, eσ22_38.2, eσ22_78.1, eσ22_78.2, sσ22_36.1, sσ22_36.2, fun a k => (jσ22 a k).1, fun a k => (jσ22 a k).2, pσ22, obσ22]) <;> (first | omega | with_reducible assumption | (unfold rng; omega) | (unfold rng; (repeat' split) <;> omega) | grind)) (fun σ30 _ rσ30 fc p13 => ?_)
      have fσ30 : Fr ra jx rm [44, 86, 87, 88, 89, 97, 98, 99, 100, 101, 102, 103, 104, 105, 106, 107, 108, 109] [32, 92, 93, 96] σ σ30 := Fr.tr fσ22 (Fr.mor (fc) (by decide) (by decide))
      have m9 := MkI.fr m9 fc (by decide)
      have e9 := p13
      have eσ30_38 := fσ30.1 38 (by decide)
      have eσ30_78 := fσ30.1 78 (by decide)
      have sσ30_36 := fσ30.2.1 36 (by decide)
      have jσ30 := fσ30.2.2.1
      have pσ30 := fσ30.2.2.2
      have obσ30 := Fr.ob fσ30 hja (by decide)
      try simp only [forall_eq, rII, rIJ, rIP, rJJ, rJI, rJP, rPP, rPI, rPJ, g1, g2, g3, g4, g5, g6, g7, g8, Nat.reduceEqDiff, Nat.reduceAdd, false_and, and_false, true_and, and_true, reduceIte, nZ0, nZ1, eσ30_38.1, eσ30_38.2, eσ30_78.1, eσ30_78.2, sσ30_36.1, sσ30_36.2, fun a k => (jσ30 a k).1, fun a k => (jσ30 a k).2, pσ30, obσ30]
      unfold w_X16_part_74
      try simp only [forall_eq, rII, rIJ, rIP, rJJ, rJI, rJP, rPP, rPI, rPJ, g1, g2, g3, g4, g5, g6, g7, g8, Nat.reduceEqDiff, Nat.reduceAdd, false_and, and_false, true_and, and_true, reduceIte, nZ0, nZ1, eσ30_38.1, eσ30_38.2, eσ30_78.1, eσ30_78.2, sσ30_36.1, sσ30_36.2, fun a k => (jσ30 a k).1, fun a k => (jσ30 a k).2, pσ30, obσ30]
      have q14 := rσ.2.1 36; simp only [rgS] at q14
      have L79 : ∀ (fu79 : Nat) (v3 : Int) (v4 : Int), (MkI ra jx ja σ30 ∧ HeE ra rm σ30 ∧ 0 ≤ v4 ∧ v4 ≤ gI σ rm 36 ∧ (v3 = 0 ∨ v3 = 1)) → ((gI σ rm 36 - v4).toNat) < fu79 → wl_X16_part_79 ra jx rm Q X fu79 σ30 v3 v4 := by
        intro fu79
        induction fu79 with
        | zero => intro  _ _ _ h9; omega
        | succ fu79 ih79 =>
          intro v3 v4 hi79 hm79
          unfold wl_X16_part_79
          unfold w_X16_part_79
          try simp only [forall_eq, rII, rIJ, rIP, rJJ, rJI, rJP, rPP, rPI, rPJ, g1, g2, g3, g4, g5, g6, g7, g8, Nat.reduceEqDiff, Nat.reduceAdd, false_and, and_false, true_and, and_true, reduceIte, nZ0, nZ1, eσ30_38.1, eσ30_38.2, eσ30_78.1, eσ30_78.2, sσ30_36.1, sσ30_36.2, fun a k => (jσ30 a k).1, fun a k => (jσ30 a k).2, pσ30, obσ30]
          obtain ⟨m9, e9, k1, k2, k3⟩ := hi79
          split
          · rename_i hc85
            skip
            unfold w_X16_part_114
            try simp only [forall_eq, rII, rIJ, rIP, rJJ, rJI, rJP, rPP, rPI, rPJ, g1, g2, g3, g4, g5, g6, g7, g8, Nat.reduceEqDiff, Nat.reduceAdd, false_and, and_false, true_and, and_true, reduceIte, nZ0, nZ1, eσ30_38.1, eσ30_38.2, eσ30_78.1, eσ30_78.2, sσ30_36.1, sσ30_36.2, fun a k => (jσ30 a k).1, fun a k => (jσ30 a k).2, pσ30, obσ30]
            split
            · rename_i hc115
              skip
              unfold w_X16_part_126
              try simp only [forall_eq, rII, rIJ, rIP, rJJ, rJI, rJP, rPP, rPI, rPJ, g1, g2, g3, g4, g5, g6, g7, g8, Nat.reduceEqDiff, Nat.reduceAdd, false_and, and_false, true_and, and_true, reduceIte, nZ0, nZ1, eσ30_38.1, eσ30_38.2, eσ30_78.1, eσ30_78.2, sσ30_36.1, sσ30_36.2, fun a k => (jσ30 a k).1, fun a k => (jσ30 a k).2, pσ30, obσ30]
              refine hQ _ _ ?_ ?_ ?_
              · exact rσ30
              · exact fσ30
              · exact ⟨m9, e9⟩
            · rename_i hc115
              skip
              unfold w_X16_part_118
              try simp only [forall_eq, rII, rIJ, rIP, rJJ, rJI, rJP, rPP, rPI, rPJ, g1, g2, g3, g4, g5, g6, g7, g8, Nat.reduceEqDiff, Nat.reduceAdd, false_and, and_false, true_and, and_true, reduceIte, nZ0, nZ1, eσ30_38.1, eσ30_38.2, eσ30_78.1, eσ30_78.2, sσ30_36.1, sσ30_36.2, fun a k => (jσ30 a k).1, fun a k => (jσ30 a k).2, pσ30, obσ30]
              refine s_X16_write g rσ30 (fun σ31 _ rσ31 fc p15 => ?_) (fun σx E rx fx px => hX _ _ rx (Fr.tr fσ30 (Fr.mor (fx) (by decide) (by decide))) ⟨px, MkI.fr m9 fx (by decide), HeE.fr e9 fx (by decide) (by decide)⟩)
              have fσ31 : Fr ra jx rm [44, 86, 87, 88, 89, 97, 98, 99, 100, 101, 102, 103, 104, 105, 106, 107, 108, 109] [32, 92, 93, 96] σ σ31 := Fr.tr fσ30 (Fr.mor (fc) (by decide) (by decide))
              have m9 := MkI.fr m9 fc (by decide)
              have e9 := HeE.fr e9 fc (by decide) (by decide)
              have eσ31_38 := fσ31.1 38 (by decide)
              have eσ31_78 := fσ31.1 78 (by decide)
              have sσ31_36 := fσ31.2.1 36 (by decide)
              have jσ31 := fσ31.2.2.1
              have pσ31 := fσ31.2.2.2
              have obσ31 := Fr.ob fσ31 hja (by decide)
              try simp only [forall_eq, rII, rIJ, rIP, rJJ, rJI, rJP, rPP, rPI, rPJ, g1, g2, g3, g4, g5, g6, g7, g8, Nat.reduceEqDiff, Nat.reduceAdd, false_and, and_false, true_and, and_true, reduceIte, nZ0, nZ1, eσ31_38.1, eσ31_38.2, eσ31_78.1, eσ31_78.2, sσ31_36.1, sσ31_36.2, fun a k => (jσ31 a k).1, fun a k => (jσ31 a k).2, pσ31, obσ31]
              refine s_X16_seal g rσ31 (by first | exact hj | (rw [fσ31.2.2.2]; exact hj)) hja m9 e9 (by unfold cO; (try simp only [rII, rIJ, rIP, rJJ, rJI, rJP, rPP, rPI, rPJ, g1, g2, g3, g4, g5, g6, g7, g8, Nat.reduceEqDiff, Nat.reduceAdd, false_and, and_false, true_and, and_true, reduceIte, nZ0, nZ1, eσ31_38.1, eσ31_38.2, eσ31_78.1, eσ31_78.2, sσ31_36.1, sσ31_36.2, fun a k => (jσ31 a k).1, fun a k => (jσ31 a k).2, pσ31, obσ31]) <;> exact hco) (fun σ32 _ rσ32 fc p16 => ?_)
              have fσ32 : Fr ra jx rm [44, 86, 87, 88, 89, 97, 98, 99, 100, 101, 102, 103, 104, 105, 106, 107, 108, 109] [32, 92, 93, 96] σ σ32 := Fr.tr fσ31 (Fr.mor (fc) (by decide) (by decide))
              have m9 := p16.1
              have e9 := p16.2
              have eσ32_38 := fσ32.1 38 (by decide)
              have eσ32_78 := fσ32.1 78 (by decide)
              have sσ32_36 := fσ32.2.1 36 (by decide)
              have jσ32 := fσ32.2.2.1
              have pσ32 := fσ32.2.2.2
              have obσ32 := Fr.ob fσ32 hja (by decide)
              try simp only [forall_eq, rII, rIJ, rIP, rJJ, rJI, rJP, rPP, rPI, rPJ, g1, g2, g3, g4, g5, g6, g7, g8, Nat.reduceEqDiff, Nat.reduceAdd, false_and, and_false, true_and, and_true, reduceIte, nZ0, nZ1, eσ32_38.1, eσ32_38.2, eσ32_78.1, eσ32_78.2, sσ32_36.1, sσ32_36.2, fun a k => (jσ32 a k).1, fun a k => (jσ32 a k).2, pσ32, obσ32]
              unfold w_X16_part_126
              try simp only [forall_eq, rII, rIJ, rIP, rJJ, rJI, rJP, rPP, rPI, rPJ, g1, g2, g3, g4, g5, g6, g7, g8, Nat.reduceEqDiff, Nat.reduceAdd, false_and, and_false, true_and, and_true, reduceIte, nZ0, nZ1, eσ32_38.1, eσ32_38.2, eσ32_78.1, eσ32_78.2, sσ32_36.1, sσ32_36.2, fun a k => (jσ32 a k).1, fun a k => (jσ32 a k).2, pσ32, obσ32]
              refine hQ _ _ ?_ ?_ ?_
              · exact rσ32
              · exact fσ32
              · exact ⟨m9, e9⟩
          · rename_i hc85
            skip
            unfold w_X16_part_88
            try simp only [forall_eq, rII, rIJ, rIP, rJJ, rJI, rJP, rPP, rPI, rPJ, g1, g2, g3, g4, g5, g6, g7, g8, Nat.reduceEqDiff, Nat.reduceAdd, false_and, and_false, true_and, and_true, reduceIte, nZ0, nZ1, eσ30_38.1, eσ30_38.2, eσ30_78.1, eσ30_78.2, sσ30_36.1, sσ30_36.2, fun a k => (jσ30 a k).1, fun a k => (jσ30 a k).2, pσ30, obσ30]
            split
            · rename_i hc89
              skip
              unfold w_X16_part_106
              try simp only [forall_eq, rII, rIJ, rIP, rJJ, rJI, rJP, rPP, rPI, rPJ, g1, g2, g3, g4, g5, g6, g7, g8, Nat.reduceEqDiff, Nat.reduceAdd, false_and, and_false, true_and, and_true, reduceIte, nZ0, nZ1, eσ30_38.1, eσ30_38.2, eσ30_78.1, eσ30_78.2, sσ30_36.1, sσ30_36.2, fun a k => (jσ30 a k).1, fun a k => (jσ30 a k).2, pσ30, obσ30]
              unfold w_X16_part_107
              try simp only [forall_eq, rII, rIJ, rIP, rJJ, rJI, rJP, rPP, rPI, rPJ, g1, g2, g3, g4, g5, g6, g7, g8, Nat.reduceEqDiff, Nat.reduceAdd, false_and, and_false, true_and, and_true, reduceIte, nZ0, nZ1, eσ30_38.1, eσ30_38.2, eσ30_78.1, eσ30_78.2, sσ30_36.1, sσ30_36.2, fun a k => (jσ30 a k).1, fun a k => (jσ30 a k).2, pσ30, obσ30]
              refine ⟨by (first | omega | with_reducible assumption | (unfold rng; omega) | (unfold rng; (repeat' split) <;> omega) | grind), ?_⟩
              refine ih79 _ _ ?_ ?_
              · exact ⟨m9, e9, by omega, by omega, by omega⟩
              · (try simp only [rII, rIJ, rIP, rJJ, rJI, rJP, rPP, rPI, rPJ, g1, g2, g3, g4, g5, g6, g7, g8, Nat.reduceEqDiff, Nat.reduceAdd, false_and, and_false, true_and, and_true, reduceIte, nZ0, nZ1, eσ30_38.1, eσ30_38.2, eσ30_78.1, eσ30_78.2, sσ30_36.1, sσ30_36.2, fun a k => (jσ30 a k).1, fun a k => (jσ30 a k).2, pσ30, obσ30]) <;> (first | omega | with_reducible assumption | (unfold rng; omega) | (unfold rng; (repeat' split) <;> omega) | grind)
            · rename_i hc89
              skip
              unfold w_X16_part_92
              try simp only [forall_eq, rII, rIJ, rIP, rJJ, rJI, rJP, rPP, rPI, rPJ, g1, g2, g3, g4, g5, g6, g7, g8, Nat.reduceEqDiff, Nat.reduceAdd, false_and, and_false, true_and, and_true, reduceIte, nZ0, nZ1, eσ30_38.1, eσ30_38.2, eσ30_78.1, eσ30_78.2, sσ30_36.1, sσ30_36.2, fun a k => (jσ30 a k).1, fun a k => (jσ30 a k).2, pσ30, obσ30]
              refine ⟨by (first | omega | with_reducible assumption | (unfold rng; omega) | (unfold rng; (repeat' split) <;> omega) | grind), ?_⟩
              have q17 := rσ30.1 44 (v4.toNat); simp only [rgT] at q17
              split
              · rename_i hc99
                skip
                unfold w_X16_part_106
                try simp only [forall_eq, rII, rIJ, rIP, rJJ, rJI, rJP, rPP, rPI, rPJ, g1, g2, g3, g4, g5, g6, g7, g8, Nat.reduceEqDiff, Nat.reduceAdd, false_and, and_false, true_and, and_true, reduceIte, nZ0, nZ1, eσ30_38.1, eσ30_38.2, eσ30_78.1, eσ30_78.2, sσ30_36.1, sσ30_36.2, fun a k => (jσ30 a k).1, fun a k => (jσ30 a k).2, pσ30, obσ30]
                unfold w_X16_part_107
                try simp only [forall_eq, rII, rIJ, rIP, rJJ, rJI, rJP, rPP, rPI, rPJ, g1, g2, g3, g4, g5, g6, g7, g8, Nat.reduceEqDiff, Nat.reduceAdd, false_and, and_false, true_and, and_true, reduceIte, nZ0, nZ1, eσ30_38.1, eσ30_38.2, eσ30_78.1, eσ30_78.2, sσ30_36.1, sσ30_36.2, fun a k => (jσ30 a k).1, fun a k => (jσ30 a k).2, pσ30, obσ30]
                refine ⟨by (first | omega | with_reducible assumption | (unfold rng; omega) | (unfold rng; (repeat' split) <;> omega) | grind), ?_⟩
                refine ih79 _ _ ?_ ?_
                · exact ⟨m9, e9, by omega, by omega, by omega⟩
                · (try simp only [rII, rIJ, rIP, rJJ, rJI, rJP, rPP, rPI, rPJ, g1, g2, g3, g4, g5, g6, g7, g8, Nat.reduceEqDiff, Nat.reduceAdd, false_and, and_false, true_and, and_true, reduceIte, nZ0, nZ1, eσ30_38.1, eσ30_38.2, eσ30_78.1, eσ30_78.2, sσ30_36.1, sσ30_36.2, fun a k => (jσ30 a k).1, fun a k => (jσ30 a k).2, pσ30, obσ30]) <;> (first | omega | with_reducible assumption | (unfold rng; omega) | (unfold rng; (repeat' split) <;> omega) | grind)
              · rename_i hc99
                skip
                unfold w_X16_part_102
                try simp only [forall_eq, rII, rIJ, rIP, rJJ, rJI, rJP, rPP, rPI, rPJ, g1, g2, g3, g4, g5, g6, g7, g8, Nat.reduceEqDiff, Nat.reduceAdd, false_and, and_false, true_and, and_true, reduceIte, nZ0, nZ1, eσ30_38.1, eσ30_38.2, eσ30_78.1, eσ30_78.2, sσ30_36.1, sσ30_36.2, fun a k => (jσ30 a k).1, fun a k => (jσ30 a k).2, pσ30, obσ30]
                unfold w_X16_part_107
                try simp only [forall_eq, rII, rIJ, rIP, rJJ, rJI, rJP, rPP, rPI, rPJ, g1, g2, g3, g4, g5, g6, g7, g8, Nat.reduceEqDiff, Nat.reduceAdd, false_and, and_false, true_and, and_true, reduceIte, nZ0, nZ1, eσ30_38.1, eσ30_38.2, eσ30_78.1, eσ30_78.2, sσ30_36.1, sσ30_36.2, fun a k => (jσ30 a k).1, fun a k => (jσ30 a k).2, pσ30, obσ30]
                refine ⟨by (first | omega | with_reducible assumption | (unfold rng; omega) | (unfold rng; (repeat' split) <;> omega) | grind), ?_⟩
                refine ih79 _ _ ?_ ?_
                · exact ⟨m9, e9, by omega, by omega, by omega⟩
                · (try simp only [rII, rIJ, rIP, rJJ, rJI, rJP, rPP, rPI, rPJ, g1, g2, g3, g4, g5, g6, g7, g8, Nat.reduceEqDiff, Nat.reduceAdd, false_and, and_false, true_and, and_true, reduceIte, nZ0, nZ1, eσ30_38.1, eσ30_38.2, eσ30_78.1, eσ30_78.2, sσ30_36.1, sσ30_36.2, fun a k => (jσ30 a k).1, fun a k => (jσ30 a k).2, pσ30, obσ30]) <;> (first | omega | with_reducible assumption | (unfold rng; omega) | (unfold rng; (repeat' split) <;> omega) | grind)
      refine ⟨_, L79 _ _ _ ?_ (Nat.lt_succ_self _)⟩
      · exact ⟨m9, e9, by omega, by omega, by omega⟩
  · rename_i hc16
    skip
    unfold w_X16_part_19
    try simp only [forall_eq, rII, rIJ, rIP, rJJ, rJI, rJP, rPP, rPI, rPJ, g1, g2, g3, g4, g5, g6, g7, g8, Nat.reduceEqDiff, Nat.reduceAdd, false_and, and_false, true_and, and_true, reduceIte, nZ0, nZ1]
    refine ⟨by simp, ?_⟩
    refine hX _ _ ?_ ?_ ?_
    · exact rσ
    · exact fσ
    · exact ⟨rfl, hmk, hhe⟩
set_option maxHeartbeats 4000000 in
theorem s_X16_takeBarrier {ra : Nat → Nat} {jx : Nat → Nat → Nat} {rm : Nat} {ja : Nat} (g : Geo ra jx rm) {σ : Sg} {v1 : Int} {v2 : Int} {v3 : Int} {v4 : Int} (rσ : Rg ra jx rm σ) (hj : gP σ rm 17 = some ja) (hja : ja = ra 15 ∨ ja = ra 16) (hre : RecE ra jx rm ja σ) (hth : ThE ra rm σ) (hhe : HeE ra rm σ) (hmk : MkI ra jx ja σ) (h1 : 0 ≤ v1 ∧ v1 < 64) (h2 : 0 ≤ v2 ∧ v2 < 1100) (h5 : 0 ≤ v3 ∧ 1 ≤ v4 ∧ v3 + v4 ≤ 1100) (hjo : JobOK jx ja σ) (hto : gI σ (ra 38) v1.toNat < gI σ ja 0) {Q : Sg → Unit → Prop} {X : Sg → String → Prop} (hQ : ∀ (σ' : Sg) (r : Unit), Rg ra jx rm σ' → Fr ra jx rm [44, 46, 47, 48, 57, 60, 61, 62, 63, 64, 65, 86, 87, 88, 89, 97, 98, 99, 100, 101, 102, 103, 104, 105, 106, 107, 108, 109] [32, 66, 67, 92, 93, 96] σ σ' → (ThE ra rm σ' ∧ RecE ra jx rm ja σ' ∧ HeE ra rm σ' ∧ MkI ra jx ja σ') → Q σ' r) (hX : ∀ (σ' : Sg) (E : String), Rg ra jx rm σ' → Fr ra jx rm [44, 46, 47, 48, 57, 60, 61, 62, 63, 64, 65, 86, 87, 88, 89, 97, 98, 99, 100, 101, 102, 103, 104, 105, 106, 107, 108, 109] [32, 66, 67, 92, 93, 96] σ σ' → (E = "StreamHouseModel$Broken" ∧ ThE ra rm σ' ∧ RecE ra jx rm ja σ' ∧ HeE ra rm σ' ∧ MkI ra jx ja σ') → X σ' E) : wp_X16_takeBarrier ra jx rm v1 v2 v3 v4 σ Q X := by
  obtain ⟨g1, g2, g3, g4, g5, g6, g7, g8⟩ := id g
  have fσ : Fr ra jx rm [44, 46, 47, 48, 57, 60, 61, 62, 63, 64, 65, 86, 87, 88, 89, 97, 98, 99, 100, 101, 102, 103, 104, 105, 106, 107, 108, 109] [32, 66, 67, 92, 93, 96] σ σ := Fr.rf
  have t9 := hth; have r9 := hre; have e9 := hhe; have m9 := hmk
  unfold wp_X16_takeBarrier
  unfold w_X16_takeBarrier_0
  try simp only [forall_eq, rII, rIJ, rIP, rJJ, rJI, rJP, rPP, rPI, rPJ, g1, g2, g3, g4, g5, g6, g7, g8, Nat.reduceEqDiff, Nat.reduceAdd, false_and, and_false, true_and, and_true, reduceIte, nZ0, nZ1]
  refine ⟨by (first | omega | with_reducible assumption | (unfold rng; omega) | (unfold rng; (repeat' split) <;> omega) | grind), ?_⟩
  have L13 : ∀ (fu13 : Nat) (τ13 : Sg) (v5 : Int) (v6 : Int), Rg ra jx rm τ13 → Fr ra jx rm [44, 46, 47, 48, 57, 60, 61, 62, 63, 64, 65, 86, 87, 88, 89, 97, 98, 99, 100, 101, 102, 103, 104, 105, 106, 107, 108, 109] [32, 66, 67, 92, 93, 96] σ τ13 → ((ThE ra rm τ13 ∧ RecE ra jx rm ja τ13 ∧ HeE ra rm τ13 ∧ MkI ra jx ja τ13) ∧ v3 ≤ v6 ∧ v6 ≤ v3 + v4 ∧ (v5 = 0 ∨ v5 = 1)) → ((v3 + v4 - v6).toNat) < fu13 → wl_X16_takeBarrier_13 ra jx rm Q X fu13 τ13 v1 v3 v4 v5 v6 := by
    intro fu13
    induction fu13 with
    | zero => intro τ13 _ _ _ _ _ h9; omega
    | succ fu13 ih13 =>
      intro τ13 v5 v6 rτ13 fτ13 hi13 hm13
      unfold wl_X16_takeBarrier_13
      have eτ13_38 := fτ13.1 38 (by decide)
      have jτ13 := fτ13.2.2.1
      have obτ13 := Fr.ob fτ13 hja (by decide)
      unfold w_X16_takeBarrier_13
      try simp only [forall_eq, rII, rIJ, rIP, rJJ, rJI, rJP, rPP, rPI, rPJ, g1, g2, g3, g4, g5, g6, g7, g8, Nat.reduceEqDiff, Nat.reduceAdd, false_and, and_false, true_and, and_true, reduceIte, nZ0, nZ1, eτ13_38.1, eτ13_38.2, fun a k => (jτ13 a k).1, fun a k => (jτ13 a k).2, obτ13]
      obtain ⟨⟨t9, r9, e9, m9⟩, k1, k2, k3⟩ := hi13
      refine ⟨by (first | omega | with_reducible assumption | (unfold rng; omega) | (unfold rng; (repeat' split) <;> omega) | grind), ?_⟩
      split
      · rename_i hc19
        skip
        unfold w_X16_takeBarrier_50
        try simp only [forall_eq, rII, rIJ, rIP, rJJ, rJI, rJP, rPP, rPI, rPJ, g1, g2, g3, g4, g5, g6, g7, g8, Nat.reduceEqDiff, Nat.reduceAdd, false_and, and_false, true_and, and_true, reduceIte, nZ0, nZ1, eτ13_38.1, eτ13_38.2, fun a k => (jτ13 a k).1, fun a k => (jτ13 a k).2, obτ13]
        split
        · rename_i hc52
          skip
          unfold w_X16_takeBarrier_56
          try simp only [forall_eq, rII, rIJ, rIP, rJJ, rJI, rJP, rPP, rPI, rPJ, g1, g2, g3, g4, g5, g6, g7, g8, Nat.reduceEqDiff, Nat.reduceAdd, false_and, and_false, true_and, and_true, reduceIte, nZ0, nZ1, eτ13_38.1, eτ13_38.2, fun a k => (jτ13 a k).1, fun a k => (jτ13 a k).2, obτ13]
          refine s_X16_part g rτ13 (by first | exact hj | (rw [fτ13.2.2.2]; exact hj)) hja r9 m9 e9 (by (try simp only [rII, rIJ, rIP, rJJ, rJI, rJP, rPP, rPI, rPJ, g1, g2, g3, g4, g5, g6, g7, g8, Nat.reduceEqDiff, Nat.reduceAdd, false_and, and_false, true_and, and_true, reduceIte, nZ0, nZ1, eτ13_38.1, eτ13_38.2, fun a k => (jτ13 a k).1, fun a k => (jτ13 a k).2, obτ13]) <;> (first | omega | with_reducible assumption | (unfold rng; omega) | (unfold rng; (repeat' split) <;> omega) | grind)) (by (try simp only [rII, rIJ, rIP, rJJ, rJI, rJP, rPP, rPI, rPJ, g1, g2, g3, g4, g5, g6, g7, g8, Nat.reduceEqDiff, Nat.reduceAdd, false_and, and_false, true_and, and_true, reduceIte, nZ0, nZ1, eτ13_38.1, eτ13_38.2, fun a k => (jτ13 a k).1, fun a k => (jτ13 a k).2, obτ13]) <;> exact JobOK.fr (K := [44, 46, 47, 48, 57, 60, 61, 62, 63, 64, 65, 86, 87, 88, 89, 97, 98, 99, 100, 101, 102, 103, 104, 105, 106, 107, 108, 109]) (S := [32, 66, 67, 92, 93, 96]) hjo hja (by repeat (first | exact Fr.rf | assumption | refine Fr.aJ g ?_ (by decide) | refine Fr.aI g ?_ (by decide) | refine Fr.sI g ?_ (by decide) | refine Fr.sJ g ?_ (by decide))) (by decide)) (by (try simp only [rII, rIJ, rIP, rJJ, rJI, rJP, rPP, rPI, rPJ, g1, g2, g3, g4, g5, g6, g7, g8, Nat.reduceEqDiff, Nat.reduceAdd, false_and, and_false, true_and, and_true, reduceIte, nZ0, nZ1, eτ13_38.1, eτ13_38.2, fun a k => (jτ13 a k).1, fun a k => (jτ13 a k).2, obτ13]) <;> exact hto) (fun σ10 _ rσ10 fc p1 => ?_) (fun σx E rx fx px => hX _ _ rx (Fr.tr fτ13 (Fr.mor (fx) (by decide) (by decide))) ⟨px.1, ThE.fr t9 fx (by decide) (by decide), RecE.fr r9 fx (by decide) (by decide), px.2.2, px.2.1⟩)
          have fσ10 : Fr ra jx rm [44, 46, 47, 48, 57, 60, 61, 62, 63, 64, 65, 86, 87, 88, 89, 97, 98, 99, 100, 101, 102, 103, 104, 105, 106, 107, 108, 109] [32, 66, 67, 92, 93, 96] σ σ10 := Fr.tr fτ13 (Fr.mor (fc) (by decide) (by decide))
          have t8 := ThE.fr t9 fc (by decide) (by decide)
          have r8 := RecE.fr r9 fc (by decide) (by decide)
          have e8 := p1.2
          have m8 := p1.1
          have t9 := t8; have r9 := r8; have e9 := e8; have m9 := m8; clear t8 r8 e8 m8
          have eσ10_38 := fσ10.1 38 (by decide)
          have jσ10 := fσ10.2.2.1
          have obσ10 := Fr.ob fσ10 hja (by decide)
          try simp only [forall_eq, rII, rIJ, rIP, rJJ, rJI, rJP, rPP, rPI, rPJ, g1, g2, g3, g4, g5, g6, g7, g8, Nat.reduceEqDiff, Nat.reduceAdd, false_and, and_false, true_and, and_true, reduceIte, nZ0, nZ1, eσ10_38.1, eσ10_38.2, fun a k => (jσ10 a k).1, fun a k => (jσ10 a k).2, obσ10]
          have L64 : ∀ (fu64 : Nat) (τ64 : Sg) (v6 : Int), Rg ra jx rm τ64 → Fr ra jx rm [44, 46, 47, 48, 57, 60, 61, 62, 63, 64, 65, 86, 87, 88, 89, 97, 98, 99, 100, 101, 102, 103, 104, 105, 106, 107, 108, 109] [32, 66, 67, 92, 93, 96] σ τ64 → ((ThE ra rm τ64 ∧ RecE ra jx rm ja τ64 ∧ HeE ra rm τ64 ∧ MkI ra jx ja τ64) ∧ v3 ≤ v6 ∧ v6 ≤ v3 + v4) → ((v3 + v4 - v6).toNat) < fu64 → wl_X16_takeBarrier_64 ra jx rm Q X fu64 τ64 v1 v3 v4 v6 := by
            intro fu64
            induction fu64 with
            | zero => intro τ64 _ _ _ _ h9; omega
            | succ fu64 ih64 =>
              intro τ64 v6 rτ64 fτ64 hi64 hm64
              unfold wl_X16_takeBarrier_64
              have eτ64_38 := fτ64.1 38 (by decide)
              have jτ64 := fτ64.2.2.1
              have obτ64 := Fr.ob fτ64 hja (by decide)
              unfold w_X16_takeBarrier_64
              try simp only [forall_eq, rII, rIJ, rIP, rJJ, rJI, rJP, rPP, rPI, rPJ, g1, g2, g3, g4, g5, g6, g7, g8, Nat.reduceEqDiff, Nat.reduceAdd, false_and, and_false, true_and, and_true, reduceIte, nZ0, nZ1, eτ64_38.1, eτ64_38.2, fun a k => (jτ64 a k).1, fun a k => (jτ64 a k).2, obτ64]
              obtain ⟨⟨t9, r9, e9, m9⟩, k1, k2⟩ := hi64
              refine ⟨by (first | omega | with_reducible assumption | (unfold rng; omega) | (unfold rng; (repeat' split) <;> omega) | grind), ?_⟩
              split
              · rename_i hc70
                skip
                unfold w_X16_takeBarrier_87
                try simp only [forall_eq, rII, rIJ, rIP, rJJ, rJI, rJP, rPP, rPI, rPJ, g1, g2, g3, g4, g5, g6, g7, g8, Nat.reduceEqDiff, Nat.reduceAdd, false_and, and_false, true_and, and_true, reduceIte, nZ0, nZ1, eτ64_38.1, eτ64_38.2, fun a k => (jτ64 a k).1, fun a k => (jτ64 a k).2, obτ64]
                refine s_X16_spread g rτ64 t9 (by (try simp only [rII, rIJ, rIP, rJJ, rJI, rJP, rPP, rPI, rPJ, g1, g2, g3, g4, g5, g6, g7, g8, Nat.reduceEqDiff, Nat.reduceAdd, false_and, and_false, true_and, and_true, reduceIte, nZ0, nZ1, eτ64_38.1, eτ64_38.2, fun a k => (jτ64 a k).1, fun a k => (jτ64 a k).2, obτ64]) <;> (first | omega | with_reducible assumption | (unfold rng; omega) | (unfold rng; (repeat' split) <;> omega) | grind)) (by (try simp only [rII, rIJ, rIP, rJJ, rJI, rJP, rPP, rPI, rPJ, g1, g2, g3, g4, g5, g6, g7, g8, Nat.reduceEqDiff, Nat.reduceAdd, false_and, and_false, true_and, and_true, reduceIte, nZ0, nZ1, eτ64_38.1, eτ64_38.2, fun a k => (jτ64 a k).1, fun a k => (jτ64 a k).2, obτ64]) <;> (first | omega | with_reducible assumption | (unfold rng; omega) | (unfold rng; (repeat' split) <;> omega) | grind)) (by decide) (fun σ11 _ rσ11 fc p2 => ?_) (fun σx E rx fx px => hX _ _ rx (Fr.tr fτ64 (Fr.mor (fx) (by decide) (by decide))) ⟨px.1, px.2, RecE.fr r9 fx (by decide) (by decide), HeE.fr e9 fx (by decide) (by decide), MkI.fr m9 fx (by decide)⟩)
                have fσ11 : Fr ra jx rm [44, 46, 47, 48, 57, 60, 61, 62, 63, 64, 65, 86, 87, 88, 89, 97, 98, 99, 100, 101, 102, 103, 104, 105, 106, 107, 108, 109] [32, 66, 67, 92, 93, 96] σ σ11 := Fr.tr fτ64 (Fr.mor (fc) (by decide) (by decide))
                have t8 := p2
                have r8 := RecE.fr r9 fc (by decide) (by decide)
                have e8 := HeE.fr e9 fc (by decide) (by decide)
                have m8 := MkI.fr m9 fc (by decide)
                have t9 := t8; have r9 := r8; have e9 := e8; have m9 := m8; clear t8 r8 e8 m8
                have eσ11_38 := fσ11.1 38 (by decide)
                have jσ11 := fσ11.2.2.1
                have obσ11 := Fr.ob fσ11 hja (by decide)
                try simp only [forall_eq, rII, rIJ, rIP, rJJ, rJI, rJP, rPP, rPI, rPJ, g1, g2, g3, g4, g5, g6, g7, g8, Nat.reduceEqDiff, Nat.reduceAdd, false_and, and_false, true_and, and_true, reduceIte, nZ0, nZ1, eσ11_38.1, eσ11_38.2, fun a k => (jσ11 a k).1, fun a k => (jσ11 a k).2, obσ11]
                refine hQ _ _ ?_ ?_ ?_
                · exact rσ11
                · exact fσ11
                · exact ⟨t9, r9, e9, m9⟩
              · rename_i hc70
                skip
                unfold w_X16_takeBarrier_73
                try simp only [forall_eq, rII, rIJ, rIP, rJJ, rJI, rJP, rPP, rPI, rPJ, g1, g2, g3, g4, g5, g6, g7, g8, Nat.reduceEqDiff, Nat.reduceAdd, false_and, and_false, true_and, and_true, reduceIte, nZ0, nZ1, eτ64_38.1, eτ64_38.2, fun a k => (jτ64 a k).1, fun a k => (jτ64 a k).2, obτ64]
                refine ⟨by (first | omega | with_reducible assumption | (unfold rng; omega) | (unfold rng; (repeat' split) <;> omega) | grind), ?_⟩
                refine ⟨by (first | omega | with_reducible assumption | (unfold rng; omega) | (unfold rng; (repeat' split) <;> omega) | grind), ?_⟩
                refine ih64 _ _ ?_ ?_ ?_ ?_
                · refine Rg.aI g ?_ (by simp only [rgT]; first | with_reducible exact nZ_rng _ | with_reducible exact nB_rng _ | with_reducible exact wr_rng _ | with_reducible exact i32any _ | (first | omega | with_reducible assumption | (unfold rng; omega) | (unfold rng; (repeat' split) <;> omega) | grind)); exact rτ64
                · refine Fr.aI g ?_ (by decide); exact fτ64
                · first | exact ⟨⟨t9, r9, e9, m9⟩, by omega, by omega⟩ | exact ⟨⟨ThE.fr (jx := jx) (K := [57]) (S := []) t9 (by repeat (first | exact Fr.rf | assumption | refine Fr.aJ g ?_ (by decide) | refine Fr.aI g ?_ (by decide) | refine Fr.sI g ?_ (by decide) | refine Fr.sJ g ?_ (by decide))) (by decide) (by decide), RecE.fr (K := [57]) (S := []) r9 (by repeat (first | exact Fr.rf | assumption | refine Fr.aJ g ?_ (by decide) | refine Fr.aI g ?_ (by decide) | refine Fr.sI g ?_ (by decide) | refine Fr.sJ g ?_ (by decide))) (by decide) (by decide), HeE.fr (jx := jx) (K := [57]) (S := []) e9 (by repeat (first | exact Fr.rf | assumption | refine Fr.aJ g ?_ (by decide) | refine Fr.aI g ?_ (by decide) | refine Fr.sI g ?_ (by decide) | refine Fr.sJ g ?_ (by decide))) (by decide) (by decide), MkI.fr (rm := rm) (K := [57]) (S := []) m9 (by repeat (first | exact Fr.rf | assumption | refine Fr.aJ g ?_ (by decide) | refine Fr.aI g ?_ (by decide) | refine Fr.sI g ?_ (by decide) | refine Fr.sJ g ?_ (by decide))) (by decide)⟩, by omega, by omega⟩
                · (try simp only [rII, rIJ, rIP, rJJ, rJI, rJP, rPP, rPI, rPJ, g1, g2, g3, g4, g5, g6, g7, g8, Nat.reduceEqDiff, Nat.reduceAdd, false_and, and_false, true_and, and_true, reduceIte, nZ0, nZ1, eτ64_38.1, eτ64_38.2, fun a k => (jτ64 a k).1, fun a k => (jτ64 a k).2, obτ64]) <;> (first | omega | with_reducible assumption | (unfold rng; omega) | (unfold rng; (repeat' split) <;> omega) | grind)
          refine ⟨_, L64 _ _ _ ?_ ?_ ?_ (Nat.lt_succ_self _)⟩
          · exact rσ10
          · exact fσ10
          · first | exact ⟨⟨t9, r9, e9, m9⟩, by omega, by omega⟩ | exact ⟨⟨ThE.fr (jx := jx) (K := [57]) (S := []) t9 (by repeat (first | exact Fr.rf | assumption | refine Fr.aJ g ?_ (by decide) | refine Fr.aI g ?_ (by decide) | refine Fr.sI g ?_ (by decide) | refine Fr.sJ g ?_ (by decide))) (by decide) (by decide), RecE.fr (K := [57]) (S := []) r9 (by repeat (first | exact Fr.rf | assumption | refine Fr.aJ g ?_ (by decide) | refine Fr.aI g ?_ (by decide) | refine Fr.sI g ?_ (by decide) | refine Fr.sJ g ?_ (by decide))) (by decide) (by decide), HeE.fr (jx := jx) (K := [57]) (S := []) e9 (by repeat (first | exact Fr.rf | assumption | refine Fr.aJ g ?_ (by decide) | refine Fr.aI g ?_ (by decide) | refine Fr.sI g ?_ (by decide) | refine Fr.sJ g ?_ (by decide))) (by decide) (by decide), MkI.fr (rm := rm) (K := [57]) (S := []) m9 (by repeat (first | exact Fr.rf | assumption | refine Fr.aJ g ?_ (by decide) | refine Fr.aI g ?_ (by decide) | refine Fr.sI g ?_ (by decide) | refine Fr.sJ g ?_ (by decide))) (by decide)⟩, by omega, by omega⟩
        · rename_i hc52
          skip
          unfold w_X16_takeBarrier_55
          try simp only [forall_eq, rII, rIJ, rIP, rJJ, rJI, rJP, rPP, rPI, rPJ, g1, g2, g3, g4, g5, g6, g7, g8, Nat.reduceEqDiff, Nat.reduceAdd, false_and, and_false, true_and, and_true, reduceIte, nZ0, nZ1, eτ13_38.1, eτ13_38.2, fun a k => (jτ13 a k).1, fun a k => (jτ13 a k).2, obτ13]
          refine hQ _ _ ?_ ?_ ?_
          · exact rτ13
          · exact fτ13
          · exact ⟨t9, r9, e9, m9⟩
      · rename_i hc19
        skip
        unfold w_X16_takeBarrier_22
        try simp only [forall_eq, rII, rIJ, rIP, rJJ, rJI, rJP, rPP, rPI, rPJ, g1, g2, g3, g4, g5, g6, g7, g8, Nat.reduceEqDiff, Nat.reduceAdd, false_and, and_false, true_and, and_true, reduceIte, nZ0, nZ1, eτ13_38.1, eτ13_38.2, fun a k => (jτ13 a k).1, fun a k => (jτ13 a k).2, obτ13]
        split
        · rename_i hc24
          skip
          unfold w_X16_takeBarrier_41
          try simp only [forall_eq, rII, rIJ, rIP, rJJ, rJI, rJP, rPP, rPI, rPJ, g1, g2, g3, g4, g5, g6, g7, g8, Nat.reduceEqDiff, Nat.reduceAdd, false_and, and_false, true_and, and_true, reduceIte, nZ0, nZ1, eτ13_38.1, eτ13_38.2, fun a k => (jτ13 a k).1, fun a k => (jτ13 a k).2, obτ13]
          unfold w_X16_takeBarrier_42
          try simp only [forall_eq, rII, rIJ, rIP, rJJ, rJI, rJP, rPP, rPI, rPJ, g1, g2, g3, g4, g5, g6, g7, g8, Nat.reduceEqDiff, Nat.reduceAdd, false_and, and_false, true_and, and_true, reduceIte, nZ0, nZ1, eτ13_38.1, eτ13_38.2, fun a k => (jτ13 a k).1, fun a k => (jτ13 a k).2, obτ13]
          refine ⟨by (first | omega | with_reducible assumption | (unfold rng; omega) | (unfold rng; (repeat' split) <;> omega) | grind), ?_⟩
          refine ih13 _ _ _ ?_ ?_ ?_ ?_
          · exact rτ13
          · exact fτ13
          · first | exact ⟨⟨t9, r9, e9, m9⟩, by omega, by omega, by omega⟩ | exact ⟨⟨ThE.fr (jx := jx) (K := [57]) (S := []) t9 (by repeat (first | exact Fr.rf | assumption | refine Fr.aJ g ?_ (by decide) | refine Fr.aI g ?_ (by decide) | refine Fr.sI g ?_ (by decide) | refine Fr.sJ g ?_ (by decide))) (by decide) (by decide), RecE.fr (K := [57]) (S := []) r9 (by repeat (first | exact Fr.rf | assumption | refine Fr.aJ g ?_ (by decide) | refine Fr.aI g ?_ (by decide) | refine Fr.sI g ?_ (by decide) | refine Fr.sJ g ?_ (by decide))) (by decide) (by decide), HeE.fr (jx := jx) (K := [57]) (S := []) e9 (by repeat (first | exact Fr.rf | assumption | refine Fr.aJ g ?_ (by decide) | refine Fr.aI g ?_ (by decide) | refine Fr.sI g ?_ (by decide) | refine Fr.sJ g ?_ (by decide))) (by decide) (by decide), MkI.fr (rm := rm) (K := [57]) (S := []) m9 (by repeat (first | exact Fr.rf | assumption | refine Fr.aJ g ?_ (by decide) | refine Fr.aI g ?_ (by decide) | refine Fr.sI g ?_ (by decide) | refine Fr.sJ g ?_ (by decide))) (by decide)⟩, by omega, by omega, by omega⟩
          · (try simp only [rII, rIJ, rIP, rJJ, rJI, rJP, rPP, rPI, rPJ, g1, g2, g3, g4, g5, g6, g7, g8, Nat.reduceEqDiff, Nat.reduceAdd, false_and, and_false, true_and, and_true, reduceIte, nZ0, nZ1, eτ13_38.1, eτ13_38.2, fun a k => (jτ13 a k).1, fun a k => (jτ13 a k).2, obτ13]) <;> (first | omega | with_reducible assumption | (unfold rng; omega) | (unfold rng; (repeat' split) <;> omega) | grind)
        · rename_i hc24
          skip
          unfold w_X16_takeBarrier_27
          try simp only [forall_eq, rII, rIJ, rIP, rJJ, rJI, rJP, rPP, rPI, rPJ, g1, g2, g3, g4, g5, g6, g7, g8, Nat.reduceEqDiff, Nat.reduceAdd, false_and, and_false, true_and, and_true, reduceIte, nZ0, nZ1, eτ13_38.1, eτ13_38.2, fun a k => (jτ13 a k).1, fun a k => (jτ13 a k).2, obτ13]
          refine ⟨by (first | omega | with_reducible assumption | (unfold rng; omega) | (unfold rng; (repeat' split) <;> omega) | grind), ?_⟩
          have q3 := rτ13.1 57 (v6.toNat); simp only [rgT] at q3
          split
          · rename_i hc34
            skip
            unfold w_X16_takeBarrier_41
            try simp only [forall_eq, rII, rIJ, rIP, rJJ, rJI, rJP, rPP, rPI, rPJ, g1, g2, g3, g4, g5, g6, g7, g8, Nat.reduceEqDiff, Nat.reduceAdd, false_and, and_false, true_and, and_true, reduceIte, nZ0, nZ1, eτ13_38.1, eτ13_38.2, fun a k => (jτ13 a k).1, fun a k => (jτ13 a k).2, obτ13]
            unfold w_X16_takeBarrier_42
            try simp only [forall_eq, rII, rIJ, rIP, rJJ, rJI, rJP, rPP, rPI, rPJ, g1, g2, g3, g4, g5, g6, g7, g8, Nat.reduceEqDiff, Nat.reduceAdd, false_and, and_false, true_and, and_true, reduceIte, nZ0, nZ1, eτ13_38.1, eτ13_38.2, fun a k => (jτ13 a k).1, fun a k => (jτ13 a k).2, obτ13]
            refine ⟨by (first | omega | with_reducible assumption | (unfold rng; omega) | (unfold rng; (repeat' split) <;> omega) | grind), ?_⟩
            refine ih13 _ _ _ ?_ ?_ ?_ ?_
            · exact rτ13
            · exact fτ13
            · first | exact ⟨⟨t9, r9, e9, m9⟩, by omega, by omega, by omega⟩ | exact ⟨⟨ThE.fr (jx := jx) (K := [57]) (S := []) t9 (by repeat (first | exact Fr.rf | assumption | refine Fr.aJ g ?_ (by decide) | refine Fr.aI g ?_ (by decide) | refine Fr.sI g ?_ (by decide) | refine Fr.sJ g ?_ (by decide))) (by decide) (by decide), RecE.fr (K := [57]) (S := []) r9 (by repeat (first | exact Fr.rf | assumption | refine Fr.aJ g ?_ (by decide) | refine Fr.aI g ?_ (by decide) | refine Fr.sI g ?_ (by decide) | refine Fr.sJ g ?_ (by decide))) (by decide) (by decide), HeE.fr (jx := jx) (K := [57]) (S := []) e9 (by repeat (first | exact Fr.rf | assumption | refine Fr.aJ g ?_ (by decide) | refine Fr.aI g ?_ (by decide) | refine Fr.sI g ?_ (by decide) | refine Fr.sJ g ?_ (by decide))) (by decide) (by decide), MkI.fr (rm := rm) (K := [57]) (S := []) m9 (by repeat (first | exact Fr.rf | assumption | refine Fr.aJ g ?_ (by decide) | refine Fr.aI g ?_ (by decide) | refine Fr.sI g ?_ (by decide) | refine Fr.sJ g ?_ (by decide))) (by decide)⟩, by omega, by omega, by omega⟩
            · (try simp only [rII, rIJ, rIP, rJJ, rJI, rJP, rPP, rPI, rPJ, g1, g2, g3, g4, g5, g6, g7, g8, Nat.reduceEqDiff, Nat.reduceAdd, false_and, and_false, true_and, and_true, reduceIte, nZ0, nZ1, eτ13_38.1, eτ13_38.2, fun a k => (jτ13 a k).1, fun a k => (jτ13 a k).2, obτ13]) <;> (first | omega | with_reducible assumption | (unfold rng; omega) | (unfold rng; (repeat' split) <;> omega) | grind)
          · rename_i hc34
            skip
            unfold w_X16_takeBarrier_37
            try simp only [forall_eq, rII, rIJ, rIP, rJJ, rJI, rJP, rPP, rPI, rPJ, g1, g2, g3, g4, g5, g6, g7, g8, Nat.reduceEqDiff, Nat.reduceAdd, false_and, and_false, true_and, and_true, reduceIte, nZ0, nZ1, eτ13_38.1, eτ13_38.2, fun a k => (jτ13 a k).1, fun a k => (jτ13 a k).2, obτ13]
            unfold w_X16_takeBarrier_42
            try simp only [forall_eq, rII, rIJ, rIP, rJJ, rJI, rJP, rPP, rPI, rPJ, g1, g2, g3, g4, g5, g6, g7, g8, Nat.reduceEqDiff, Nat.reduceAdd, false_and, and_false, true_and, and_true, reduceIte, nZ0, nZ1, eτ13_38.1, eτ13_38.2, fun a k => (jτ13 a k).1, fun a k => (jτ13 a k).2, obτ13]
            refine ⟨by (first | omega | with_reducible assumption | (unfold rng; omega) | (unfold rng; (repeat' split) <;> omega) | grind), ?_⟩
            refine ih13 _ _ _ ?_ ?_ ?_ ?_
            · exact rτ13
            · exact fτ13
            · first | exact ⟨⟨t9, r9, e9, m9⟩, by omega, by omega, by omega⟩ | exact ⟨⟨ThE.fr (jx := jx) (K := [57]) (S := []) t9 (by repeat (first | exact Fr.rf | assumption | refine Fr.aJ g ?_ (by decide) | refine Fr.aI g ?_ (by decide) | refine Fr.sI g ?_ (by decide) | refine Fr.sJ g ?_ (by decide))) (by decide) (by decide), RecE.fr (K := [57]) (S := []) r9 (by repeat (first | exact Fr.rf | assumption | refine Fr.aJ g ?_ (by decide) | refine Fr.aI g ?_ (by decide) | refine Fr.sI g ?_ (by decide) | refine Fr.sJ g ?_ (by decide))) (by decide) (by decide), HeE.fr (jx := jx) (K := [57]) (S := []) e9 (by repeat (first | exact Fr.rf | assumption | refine Fr.aJ g ?_ (by decide) | refine Fr.aI g ?_ (by decide) | refine Fr.sI g ?_ (by decide) | refine Fr.sJ g ?_ (by decide))) (by decide) (by decide), MkI.fr (rm := rm) (K := [57]) (S := []) m9 (by repeat (first | exact Fr.rf | assumption | refine Fr.aJ g ?_ (by decide) | refine Fr.aI g ?_ (by decide) | refine Fr.sI g ?_ (by decide) | refine Fr.sJ g ?_ (by decide))) (by decide)⟩, by omega, by omega, by omega⟩
            · (try simp only [rII, rIJ, rIP, rJJ, rJI, rJP, rPP, rPI, rPJ, g1, g2, g3, g4, g5, g6, g7, g8, Nat.reduceEqDiff, Nat.reduceAdd, false_and, and_false, true_and, and_true, reduceIte, nZ0, nZ1, eτ13_38.1, eτ13_38.2, fun a k => (jτ13 a k).1, fun a k => (jτ13 a k).2, obτ13]) <;> (first | omega | with_reducible assumption | (unfold rng; omega) | (unfold rng; (repeat' split) <;> omega) | grind)
  refine ⟨_, L13 _ _ _ _ ?_ ?_ ?_ (Nat.lt_succ_self _)⟩
  · refine Rg.aI g ?_ (by simp only [rgT]; first | with_reducible exact nZ_rng _ | with_reducible exact nB_rng _ | with_reducible exact wr_rng _ | with_reducible exact i32any _ | (first | omega | with_reducible assumption | (unfold rng; omega) | (unfold rng; (repeat' split) <;> omega) | grind)); exact rσ
  · refine Fr.aI g ?_ (by decide); exact fσ
  · first | exact ⟨⟨t9, r9, e9, m9⟩, by omega, by omega, by omega⟩ | exact ⟨⟨ThE.fr (jx := jx) (K := [57]) (S := []) t9 (by repeat (first | exact Fr.rf | assumption | refine Fr.aJ g ?_ (by decide) | refine Fr.aI g ?_ (by decide) | refine Fr.sI g ?_ (by decide) | refine Fr.sJ g ?_ (by decide))) (by decide) (by decide), RecE.fr (K := [57]) (S := []) r9 (by repeat (first | exact Fr.rf | assumption | refine Fr.aJ g ?_ (by decide) | refine Fr.aI g ?_ (by decide) | refine Fr.sI g ?_ (by decide) | refine Fr.sJ g ?_ (by decide))) (by decide) (by decide), HeE.fr (jx := jx) (K := [57]) (S := []) e9 (by repeat (first | exact Fr.rf | assumption | refine Fr.aJ g ?_ (by decide) | refine Fr.aI g ?_ (by decide) | refine Fr.sI g ?_ (by decide) | refine Fr.sJ g ?_ (by decide))) (by decide) (by decide), MkI.fr (rm := rm) (K := [57]) (S := []) m9 (by repeat (first | exact Fr.rf | assumption | refine Fr.aJ g ?_ (by decide) | refine Fr.aI g ?_ (by decide) | refine Fr.sI g ?_ (by decide) | refine Fr.sJ g ?_ (by decide))) (by decide)⟩, by omega, by omega, by omega⟩


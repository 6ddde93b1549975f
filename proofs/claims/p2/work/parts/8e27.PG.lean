set_option maxHeartbeats 2000000 in
theorem s2_X16_readSoFar {ra : Nat → Nat} {jx : Nat → Nat → Nat} {rm : Nat} (g : Geo ra jx rm) {σ : Sg} {v1 : Int} {v2 : Int} (rσ : Rg ra jx rm σ) (h1 : 0 ≤ v1 ∧ v1 < 4) (h2 : 0 ≤ v2 ∧ v2 ≤ 64) {Q : Sg → Int64 → Prop} {X : Sg → String → Prop} (hQ : ∀ (r : Int64), (-1 ≤ r.toInt ∧ r.toInt ≤ 1000000) → Q σ r) : wp_X16_readSoFar ra jx rm v1 v2 σ Q X := by
  obtain ⟨g1, g2, g3, g4, g5, g6, g7, g8⟩ := id g
  have fσ : Fr ra jx rm [] [] σ σ := Fr.rf
  unfold wp_X16_readSoFar
  unfold w_X16_readSoFar_0
  try simp only [forall_eq, rII, rIJ, rIP, rJJ, rJI, rJP, rPP, rPI, rPJ, g1, g2, g3, g4, g5, g6, g7, g8, Nat.reduceEqDiff, Nat.reduceAdd, false_and, and_false, true_and, and_true, reduceIte, nZ0, nZ1]
  have L7 : ∀ (fu7 : Nat) (v3 : Int64) (v5 : Int), (0 ≤ v5 ∧ v5 ≤ v2 ∧ -1 ≤ v3.toInt ∧ v3.toInt ≤ 1000000) → ((v2 - v5).toNat) < fu7 → wl_X16_readSoFar_7 ra jx rm Q X fu7 σ v1 v2 v3 v5 := by
    intro fu7
    induction fu7 with
    | zero => intro  _ _ _ h9; omega
    | succ fu7 ih7 =>
      intro v3 v5 hi7 hm7
      unfold wl_X16_readSoFar_7
      unfold w_X16_readSoFar_7
      try simp only [forall_eq, rII, rIJ, rIP, rJJ, rJI, rJP, rPP, rPI, rPJ, g1, g2, g3, g4, g5, g6, g7, g8, Nat.reduceEqDiff, Nat.reduceAdd, false_and, and_false, true_and, and_true, reduceIte, nZ0, nZ1]
      split
      · rename_i hc10
        skip
        unfold w_X16_readSoFar_36
        try simp only [forall_eq, rII, rIJ, rIP, rJJ, rJI, rJP, rPP, rPI, rPJ, g1, g2, g3, g4, g5, g6, g7, g8, Nat.reduceEqDiff, Nat.reduceAdd, false_and, and_false, true_and, and_true, reduceIte, nZ0, nZ1]
        refine hQ _ ?_
        · exact hi7.2.2
      · rename_i hc10
        skip
        unfold w_X16_readSoFar_13
        try simp only [forall_eq, rII, rIJ, rIP, rJJ, rJI, rJP, rPP, rPI, rPJ, g1, g2, g3, g4, g5, g6, g7, g8, Nat.reduceEqDiff, Nat.reduceAdd, false_and, and_false, true_and, and_true, reduceIte, nZ0, nZ1]
        refine ⟨by (first | omega | with_reducible assumption | (unfold rng; omega) | (unfold rng; (repeat' split) <;> omega) | grind), ?_⟩
        refine ⟨by (first | omega | with_reducible assumption | (unfold rng; omega) | (unfold rng; (repeat' split) <;> omega) | grind), ?_⟩
        refine ⟨by (first | omega | with_reducible assumption | (unfold rng; omega) | (unfold rng; (repeat' split) <;> omega) | grind), ?_⟩
        refine ⟨by (first | omega | with_reducible assumption | (unfold rng; omega) | (unfold rng; (repeat' split) <;> omega) | grind), ?_⟩
        refine ih7 _ _ ?_ ?_
        · first | exact ⟨by omega, by omega, by decide, by decide⟩ | (have w9 := maxJ_b hi7.2.2.1 hi7.2.2.2 (rσ.2.2.2 23 (64 * v1 + v5).toNat); exact ⟨by omega, by omega, w9.1, w9.2⟩)
        · (try simp only [rII, rIJ, rIP, rJJ, rJI, rJP, rPP, rPI, rPJ, g1, g2, g3, g4, g5, g6, g7, g8, Nat.reduceEqDiff, Nat.reduceAdd, false_and, and_false, true_and, and_true, reduceIte, nZ0, nZ1]) <;> (first | omega | with_reducible assumption | (unfold rng; omega) | (unfold rng; (repeat' split) <;> omega) | grind)
  refine ⟨_, L7 _ _ _ ?_ (Nat.lt_succ_self _)⟩
  · first | exact ⟨by omega, by omega, by decide, by decide⟩ | (have w9 := maxJ_b hi7.2.2.1 hi7.2.2.2 (rσ.2.2.2 23 (64 * v1 + v5).toNat); exact ⟨by omega, by omega, w9.1, w9.2⟩)
set_option maxHeartbeats 8000000 in
theorem s_X16_sourceTurn {ra : Nat → Nat} {jx : Nat → Nat → Nat} {rm : Nat} {ja : Nat} (g : Geo ra jx rm) {σ : Sg} {v1 : Int} (rσ : Rg ra jx rm σ) (hj : gP σ rm 17 = some ja) (hja : ja = ra 15 ∨ ja = ra 16) (hre : RecE ra jx rm ja σ) (hth : ThE ra rm σ) (hhe : HeE ra rm σ) (hmk : MkI ra jx ja σ) (h1 : 0 ≤ v1 ∧ v1 < 64) (hp : 1 ≤ gI σ rm 33) (hk0 : gI σ (jx ja 2) (gI σ (ra 38) v1.toNat).toNat = 0) (hjo : JobOK jx ja σ) (hto : gI σ (ra 38) v1.toNat < gI σ ja 0) {Q : Sg → Int → Prop} {X : Sg → String → Prop} (hQ : ∀ (σ' : Sg) (r : Int), Rg ra jx rm σ' → Fr ra jx rm [26, 40, 41, 42, 43, 44, 46, 47, 48, 49, 60, 61, 62, 63, 64, 65, 81, 86, 87, 88, 89, 97, 98, 99, 100, 101, 102, 103, 104, 105, 106, 107, 108, 109] [27, 32, 66, 67, 92, 93, 96, 113] σ σ' → (ThE ra rm σ' ∧ RecE ra jx rm ja σ' ∧ HeE ra rm σ' ∧ MkI ra jx ja σ') → Q σ' r) (hX : ∀ (σ' : Sg) (E : String), Rg ra jx rm σ' → Fr ra jx rm [26, 40, 41, 42, 43, 44, 46, 47, 48, 49, 60, 61, 62, 63, 64, 65, 81, 86, 87, 88, 89, 97, 98, 99, 100, 101, 102, 103, 104, 105, 106, 107, 108, 109] [27, 32, 66, 67, 92, 93, 96, 113] σ σ' → (E = "StreamHouseModel$Broken" ∧ ThE ra rm σ' ∧ RecE ra jx rm ja σ' ∧ HeE ra rm σ' ∧ MkI ra jx ja σ') → X σ' E) : wp_X16_sourceTurn ra jx rm v1 σ Q X := by
  obtain ⟨g1, g2, g3, g4, g5, g6, g7, g8⟩ := id g
  have fσ : Fr ra jx rm [26, 40, 41, 42, 43, 44, 46, 47, 48, 49, 60, 61, 62, 63, 64, 65, 81, 86, 87, 88, 89, 97, 98, 99, 100, 101, 102, 103, 104, 105, 106, 107, 108, 109] [27, 32, 66, 67, 92, 93, 96, 113] σ σ := Fr.rf
  have t9 := hth; have r9 := hre; have e9 := hhe; have m9 := hmk
  have hoo := rσ.1 38 v1.toNat; simp only [rgT] at hoo
  obtain ⟨o1, o2, o3, o4, o5, o6, o7, o8, o9⟩ := hjo.2.2 (gI σ (ra 38) v1.toNat) (by omega) hto
  obtain ⟨s1, s2, s3, s4⟩ := o3 hk0
  have big : (1099511627776 : Int64).toInt ≤ 4611686018427387904 := by decide
  unfold wp_X16_sourceTurn
  unfold w_X16_sourceTurn_0
  try simp only [forall_eq, rII, rIJ, rIP, rJJ, rJI, rJP, rPP, rPI, rPJ, g1, g2, g3, g4, g5, g6, g7, g8, Nat.reduceEqDiff, Nat.reduceAdd, false_and, and_false, true_and, and_true, reduceIte, nZ0, nZ1]
  refine ⟨by (first | omega | with_reducible assumption | (unfold rng; omega) | (unfold rng; (repeat' split) <;> omega) | grind), ?_⟩
  refine ⟨ja, by exact hj, hja, ?_⟩
  have q1 := rσ.1 38 (v1.toNat); simp only [rgT] at q1
  refine ⟨by (first | omega | with_reducible assumption | (unfold rng; omega) | (unfold rng; (repeat' split) <;> omega) | grind), ?_⟩
  have q2 := rσ.2.1 93; simp only [rgS] at q2
  split
  · rename_i hc22
    skip
    unfold w_X16_sourceTurn_48
    try simp only [forall_eq, rII, rIJ, rIP, rJJ, rJI, rJP, rPP, rPI, rPJ, g1, g2, g3, g4, g5, g6, g7, g8, Nat.reduceEqDiff, Nat.reduceAdd, false_and, and_false, true_and, and_true, reduceIte, nZ0, nZ1]
    refine ⟨by (first | omega | with_reducible assumption | (unfold rng; omega) | (unfold rng; (repeat' split) <;> omega) | grind), ?_⟩
    refine ⟨by (first | omega | with_reducible assumption | (unfold rng; omega) | (unfold rng; (repeat' split) <;> omega) | grind), ?_⟩
    have q3 := rσ.1 43 (v1.toNat); simp only [rgT] at q3
    have q4 := rσ.1 22 ((((gJ σ (jx ja 8) (gI σ (ra 38) v1.toNat).toNat)).toInt32.toInt).toNat); simp only [rgT] at q4
    split
    · rename_i hc60
      skip
      unfold w_X16_sourceTurn_272
      try simp only [forall_eq, rII, rIJ, rIP, rJJ, rJI, rJP, rPP, rPI, rPJ, g1, g2, g3, g4, g5, g6, g7, g8, Nat.reduceEqDiff, Nat.reduceAdd, false_and, and_false, true_and, and_true, reduceIte, nZ0, nZ1]
      refine ⟨by (first | omega | with_reducible assumption | (unfold rng; omega) | (unfold rng; (repeat' split) <;> omega) | grind), ?_⟩
      have q5 := rσ.1 25 ((((gJ σ (jx ja 8) (gI σ (ra 38) v1.toNat).toNat)).toInt32.toInt).toNat); simp only [rgT] at q5
      split
      · rename_i hc278
        skip
        unfold w_X16_sourceTurn_314
        try simp only [forall_eq, rII, rIJ, rIP, rJJ, rJI, rJP, rPP, rPI, rPJ, g1, g2, g3, g4, g5, g6, g7, g8, Nat.reduceEqDiff, Nat.reduceAdd, false_and, and_false, true_and, and_true, reduceIte, nZ0, nZ1]
        refine hQ _ _ ?_ ?_ ?_
        · exact rσ
        · exact fσ
        · first | exact ⟨t9, r9, e9, m9⟩ | exact ⟨ThE.fr (jx := jx) (K := [41, 42, 43]) (S := [113]) t9 (by repeat (first | exact Fr.rf | assumption | refine Fr.aJ g ?_ (by decide) | refine Fr.aI g ?_ (by decide) | refine Fr.sI g ?_ (by decide) | refine Fr.sJ g ?_ (by decide))) (by decide) (by decide), RecE.fr (K := [41, 42, 43]) (S := [113]) r9 (by repeat (first | exact Fr.rf | assumption | refine Fr.aJ g ?_ (by decide) | refine Fr.aI g ?_ (by decide) | refine Fr.sI g ?_ (by decide) | refine Fr.sJ g ?_ (by decide))) (by decide) (by decide), HeE.fr (jx := jx) (K := [41, 42, 43]) (S := [113]) e9 (by repeat (first | exact Fr.rf | assumption | refine Fr.aJ g ?_ (by decide) | refine Fr.aI g ?_ (by decide) | refine Fr.sI g ?_ (by decide) | refine Fr.sJ g ?_ (by decide))) (by decide) (by decide), MkI.fr (rm := rm) (K := [41, 42, 43]) (S := [113]) m9 (by repeat (first | exact Fr.rf | assumption | refine Fr.aJ g ?_ (by decide) | refine Fr.aI g ?_ (by decide) | refine Fr.sI g ?_ (by decide) | refine Fr.sJ g ?_ (by decide))) (by decide)⟩
      · rename_i hc278
        skip
        unfold w_X16_sourceTurn_281
        try simp only [forall_eq, rII, rIJ, rIP, rJJ, rJI, rJP, rPP, rPI, rPJ, g1, g2, g3, g4, g5, g6, g7, g8, Nat.reduceEqDiff, Nat.reduceAdd, false_and, and_false, true_and, and_true, reduceIte, nZ0, nZ1]
        refine ⟨by (first | omega | with_reducible assumption | (unfold rng; omega) | (unfold rng; (repeat' split) <;> omega) | grind), ?_⟩
        split
        · rename_i hc291
          skip
          unfold w_X16_sourceTurn_314
          try simp only [forall_eq, rII, rIJ, rIP, rJJ, rJI, rJP, rPP, rPI, rPJ, g1, g2, g3, g4, g5, g6, g7, g8, Nat.reduceEqDiff, Nat.reduceAdd, false_and, and_false, true_and, and_true, reduceIte, nZ0, nZ1]
          refine hQ _ _ ?_ ?_ ?_
          · exact rσ
          · exact fσ
          · first | exact ⟨t9, r9, e9, m9⟩ | exact ⟨ThE.fr (jx := jx) (K := [41, 42, 43]) (S := [113]) t9 (by repeat (first | exact Fr.rf | assumption | refine Fr.aJ g ?_ (by decide) | refine Fr.aI g ?_ (by decide) | refine Fr.sI g ?_ (by decide) | refine Fr.sJ g ?_ (by decide))) (by decide) (by decide), RecE.fr (K := [41, 42, 43]) (S := [113]) r9 (by repeat (first | exact Fr.rf | assumption | refine Fr.aJ g ?_ (by decide) | refine Fr.aI g ?_ (by decide) | refine Fr.sI g ?_ (by decide) | refine Fr.sJ g ?_ (by decide))) (by decide) (by decide), HeE.fr (jx := jx) (K := [41, 42, 43]) (S := [113]) e9 (by repeat (first | exact Fr.rf | assumption | refine Fr.aJ g ?_ (by decide) | refine Fr.aI g ?_ (by decide) | refine Fr.sI g ?_ (by decide) | refine Fr.sJ g ?_ (by decide))) (by decide) (by decide), MkI.fr (rm := rm) (K := [41, 42, 43]) (S := [113]) m9 (by repeat (first | exact Fr.rf | assumption | refine Fr.aJ g ?_ (by decide) | refine Fr.aI g ?_ (by decide) | refine Fr.sI g ?_ (by decide) | refine Fr.sJ g ?_ (by decide))) (by decide)⟩
        · rename_i hc291
          skip
          unfold w_X16_sourceTurn_294
          try simp only [forall_eq, rII, rIJ, rIP, rJJ, rJI, rJP, rPP, rPI, rPJ, g1, g2, g3, g4, g5, g6, g7, g8, Nat.reduceEqDiff, Nat.reduceAdd, false_and, and_false, true_and, and_true, reduceIte, nZ0, nZ1]
          refine ⟨by (first | omega | with_reducible assumption | (unfold rng; omega) | (unfold rng; (repeat' split) <;> omega) | grind), ?_⟩
          refine s_X16_spread g (by refine Rg.aJ g ?_ (by simp only [rlT]; first | with_reducible assumption | omega | exact Int64.toInt_le _ | (rw [Int64.toInt_ofInt_of_le (by omega) (by omega)]; omega) | grind); exact rσ) (by first | exact t9 | exact ThE.fr (jx := jx) (K := [40]) (S := []) t9 (by repeat (first | exact Fr.rf | assumption | refine Fr.aJ g ?_ (by decide) | refine Fr.aI g ?_ (by decide) | refine Fr.sI g ?_ (by decide) | refine Fr.sJ g ?_ (by decide))) (by decide) (by decide)) (by (try simp only [rII, rIJ, rIP, rJJ, rJI, rJP, rPP, rPI, rPJ, g1, g2, g3, g4, g5, g6, g7, g8, Nat.reduceEqDiff, Nat.reduceAdd, false_and, and_false, true_and, and_true, reduceIte, nZ0, nZ1]) <;> (first | omega | with_reducible assumption | (unfold rng; omega) | (unfold rng; (repeat' split) <;> omega) | grind)) (by (try simp only [rII, rIJ, rIP, rJJ, rJI, rJP, rPP, rPI, rPJ, g1, g2, g3, g4, g5, g6, g7, g8, Nat.reduceEqDiff, Nat.reduceAdd, false_and, and_false, true_and, and_true, reduceIte, nZ0, nZ1]) <;> (first | omega | with_reducible assumption | (unfold rng; omega) | (unfold rng; (repeat' split) <;> omega) | grind)) (by first | decide | omega | exact big) (fun σ41 _ rσ41 fc p6 => ?_) (fun σx E rx fx px => hX _ _ rx (Fr.tr (by refine Fr.aJ g ?_ (by decide); exact fσ) (Fr.mor (fx) (by decide) (by decide))) ⟨px.1, px.2, RecE.fr (RecE.fr (K := [40]) (S := []) r9 (by repeat (first | exact Fr.rf | assumption | refine Fr.aJ g ?_ (by decide) | refine Fr.aI g ?_ (by decide) | refine Fr.sI g ?_ (by decide) | refine Fr.sJ g ?_ (by decide))) (by decide) (by decide)) fx (by decide) (by decide), HeE.fr (HeE.fr (jx := jx) (K := [40]) (S := []) e9 (by repeat (first | exact Fr.rf | assumption | refine Fr.aJ g ?_ (by decide) | refine Fr.aI g ?_ (by decide) | refine Fr.sI g ?_ (by decide) | refine Fr.sJ g ?_ (by decide))) (by decide) (by decide)) fx (by decide) (by decide), MkI.fr (MkI.fr (rm := rm) (K := [40]) (S := []) m9 (by repeat (first | exact Fr.rf | assumption | refine Fr.aJ g ?_ (by decide) | refine Fr.aI g ?_ (by decide) | refine Fr.sI g ?_ (by decide) | refine Fr.sJ g ?_ (by decide))) (by decide)) fx (by decide)⟩)
          have fσ41 : Fr ra jx rm [26, 40, 41, 42, 43, 44, 46, 47, 48, 49, 60, 61, 62, 63, 64, 65, 81, 86, 87, 88, 89, 97, 98, 99, 100, 101, 102, 103, 104, 105, 106, 107, 108, 109] [27, 32, 66, 67, 92, 93, 96, 113] σ σ41 := Fr.tr (by refine Fr.aJ g ?_ (by decide); exact fσ) (Fr.mor (fc) (by decide) (by decide))
          have t8 := p6
          have r8 := RecE.fr (RecE.fr (K := [40]) (S := []) r9 (by repeat (first | exact Fr.rf | assumption | refine Fr.aJ g ?_ (by decide) | refine Fr.aI g ?_ (by decide) | refine Fr.sI g ?_ (by decide) | refine Fr.sJ g ?_ (by decide))) (by decide) (by decide)) fc (by decide) (by decide)
          have e8 := HeE.fr (HeE.fr (jx := jx) (K := [40]) (S := []) e9 (by repeat (first | exact Fr.rf | assumption | refine Fr.aJ g ?_ (by decide) | refine Fr.aI g ?_ (by decide) | refine Fr.sI g ?_ (by decide) | refine Fr.sJ g ?_ (by decide))) (by decide) (by decide)) fc (by decide) (by decide)
          have m8 := MkI.fr (MkI.fr (rm := rm) (K := [40]) (S := []) m9 (by repeat (first | exact Fr.rf | assumption | refine Fr.aJ g ?_ (by decide) | refine Fr.aI g ?_ (by decide) | refine Fr.sI g ?_ (by decide) | refine Fr.sJ g ?_ (by decide))) (by decide)) fc (by decide)
          have t9 := t8; have r9 := r8; have e9 := e8; have m9 := m8; clear t8 r8 e8 m8
          have eσ41_22 := fσ41.1 22 (by decide)
          have eσ41_23 := fσ41.1 23 (by decide)
          have eσ41_24 := fσ41.1 24 (by decide)
          have eσ41_25 := fσ41.1 25 (by decide)
          have eσ41_38 := fσ41.1 38 (by decide)
          have jσ41 := fσ41.2.2.1
          have pσ41 := fσ41.2.2.2
          have obσ41 := Fr.ob fσ41 hja (by decide)
          try simp only [forall_eq, rII, rIJ, rIP, rJJ, rJI, rJP, rPP, rPI, rPJ, g1, g2, g3, g4, g5, g6, g7, g8, Nat.reduceEqDiff, Nat.reduceAdd, false_and, and_false, true_and, and_true, reduceIte, nZ0, nZ1, eσ41_22.1, eσ41_22.2, eσ41_23.1, eσ41_23.2, eσ41_24.1, eσ41_24.2, eσ41_25.1, eσ41_25.2, eσ41_38.1, eσ41_38.2, fun a k => (jσ41 a k).1, fun a k => (jσ41 a k).2, pσ41, obσ41]
          refine hQ _ _ ?_ ?_ ?_
          · exact rσ41
          · exact fσ41
          · first | exact ⟨t9, r9, e9, m9⟩ | exact ⟨ThE.fr (jx := jx) (K := [41, 42, 43]) (S := [113]) t9 (by repeat (first | exact Fr.rf | assumption | refine Fr.aJ g ?_ (by decide) | refine Fr.aI g ?_ (by decide) | refine Fr.sI g ?_ (by decide) | refine Fr.sJ g ?_ (by decide))) (by decide) (by decide), RecE.fr (K := [41, 42, 43]) (S := [113]) r9 (by repeat (first | exact Fr.rf | assumption | refine Fr.aJ g ?_ (by decide) | refine Fr.aI g ?_ (by decide) | refine Fr.sI g ?_ (by decide) | refine Fr.sJ g ?_ (by decide))) (by decide) (by decide), HeE.fr (jx := jx) (K := [41, 42, 43]) (S := [113]) e9 (by repeat (first | exact Fr.rf | assumption | refine Fr.aJ g ?_ (by decide) | refine Fr.aI g ?_ (by decide) | refine Fr.sI g ?_ (by decide) | refine Fr.sJ g ?_ (by decide))) (by decide) (by decide), MkI.fr (rm := rm) (K := [41, 42, 43]) (S := [113]) m9 (by repeat (first | exact Fr.rf | assumption | refine Fr.aJ g ?_ (by decide) | refine Fr.aI g ?_ (by decide) | refine Fr.sI g ?_ (by decide) | refine Fr.sJ g ?_ (by decide))) (by decide)⟩
    · rename_i hc60
      skip
      unfold w_X16_sourceTurn_63
      try simp only [forall_eq, rII, rIJ, rIP, rJJ, rJI, rJP, rPP, rPI, rPJ, g1, g2, g3, g4, g5, g6, g7, g8, Nat.reduceEqDiff, Nat.reduceAdd, false_and, and_false, true_and, and_true, reduceIte, nZ0, nZ1]
      refine ⟨by (first | omega | with_reducible assumption | (unfold rng; omega) | (unfold rng; (repeat' split) <;> omega) | grind), ?_⟩
      refine ⟨by (first | omega | with_reducible assumption | (unfold rng; omega) | (unfold rng; (repeat' split) <;> omega) | grind), ?_⟩
      refine ⟨by (first | omega | with_reducible assumption | (unfold rng; omega) | (unfold rng; (repeat' split) <;> omega) | grind), ?_⟩
      refine ⟨by (first | omega | with_reducible assumption | (unfold rng; omega) | (unfold rng; (repeat' split) <;> omega) | grind), ?_⟩
      refine ⟨by (first | omega | with_reducible assumption | (unfold rng; omega) | (unfold rng; (repeat' split) <;> omega) | grind), ?_⟩
      refine ⟨by (first | omega | with_reducible assumption | (unfold rng; omega) | (unfold rng; (repeat' split) <;> omega) | grind), ?_⟩
      refine ⟨by (first | omega | with_reducible assumption | (unfold rng; omega) | (unfold rng; (repeat' split) <;> omega) | grind), ?_⟩
      refine ⟨by (first | omega | with_reducible assumption | (unfold rng; omega) | (unfold rng; (repeat' split) <;> omega) | grind), ?_⟩
      have q7 := rσ.1 41 (v1.toNat); simp only [rgT] at q7
      refine ⟨by (first | omega | with_reducible assumption | (unfold rng; omega) | (unfold rng; (repeat' split) <;> omega) | grind), ?_⟩
      refine ⟨by (first | omega | with_reducible assumption | (unfold rng; omega) | (unfold rng; (repeat' split) <;> omega) | grind), ?_⟩
      split
      · rename_i hc115
        skip
        unfold w_X16_sourceTurn_130
        try simp only [forall_eq, rII, rIJ, rIP, rJJ, rJI, rJP, rPP, rPI, rPJ, g1, g2, g3, g4, g5, g6, g7, g8, Nat.reduceEqDiff, Nat.reduceAdd, false_and, and_false, true_and, and_true, reduceIte, nZ0, nZ1]
        refine ⟨by (first | omega | with_reducible assumption | (unfold rng; omega) | (unfold rng; (repeat' split) <;> omega) | grind), ?_⟩
        refine ⟨by (first | omega | with_reducible assumption | (unfold rng; omega) | (unfold rng; (repeat' split) <;> omega) | grind), ?_⟩
        refine s_X16_setOf g (by refine Rg.aI g ?_ (by simp only [rgT]; first | with_reducible exact nZ_rng _ | with_reducible exact nB_rng _ | with_reducible exact wr_rng _ | with_reducible exact i32any _ | (first | omega | with_reducible assumption | (unfold rng; omega) | (unfold rng; (repeat' split) <;> omega) | grind)); refine Rg.aI g ?_ (by simp only [rgT]; first | with_reducible exact nZ_rng _ | with_reducible exact nB_rng _ | with_reducible exact wr_rng _ | with_reducible exact i32any _ | (first | omega | with_reducible assumption | (unfold rng; omega) | (unfold rng; (repeat' split) <;> omega) | grind)); refine Rg.sI g ?_ (by simp only [rgS]; first | with_reducible exact nZ_rng _ | with_reducible exact nB_rng _ | with_reducible exact wr_rng _ | with_reducible exact i32any _ | (first | omega | with_reducible assumption | (unfold rng; omega) | (unfold rng; (repeat' split) <;> omega) | grind)); exact rσ) (by (try simp only [rII, rIJ, rIP, rJJ, rJI, rJP, rPP, rPI, rPJ, g1, g2, g3, g4, g5, g6, g7, g8, Nat.reduceEqDiff, Nat.reduceAdd, false_and, and_false, true_and, and_true, reduceIte, nZ0, nZ1]) <;> (first | omega | with_reducible assumption | (unfold rng; omega) | (unfold rng; (repeat' split) <;> omega) | grind)) (fun σ45 r46 rσ45 fc p8 => ?_) (fun σx E rx fx px => hX _ _ rx (Fr.tr (by refine Fr.aI g ?_ (by decide); refine Fr.aI g ?_ (by decide); refine Fr.sI g ?_ (by decide); exact fσ) (Fr.mor (fx) (by decide) (by decide))) ⟨px, ThE.fr (ThE.fr (jx := jx) (K := [41, 43]) (S := [113]) t9 (by repeat (first | exact Fr.rf | assumption | refine Fr.aJ g ?_ (by decide) | refine Fr.aI g ?_ (by decide) | refine Fr.sI g ?_ (by decide) | refine Fr.sJ g ?_ (by decide))) (by decide) (by decide)) fx (by decide) (by decide), RecE.fr (RecE.fr (K := [41, 43]) (S := [113]) r9 (by repeat (first | exact Fr.rf | assumption | refine Fr.aJ g ?_ (by decide) | refine Fr.aI g ?_ (by decide) | refine Fr.sI g ?_ (by decide) | refine Fr.sJ g ?_ (by decide))) (by decide) (by decide)) fx (by decide) (by decide), HeE.fr (HeE.fr (jx := jx) (K := [41, 43]) (S := [113]) e9 (by repeat (first | exact Fr.rf | assumption | refine Fr.aJ g ?_ (by decide) | refine Fr.aI g ?_ (by decide) | refine Fr.sI g ?_ (by decide) | refine Fr.sJ g ?_ (by decide))) (by decide) (by decide)) fx (by decide) (by decide), MkI.fr (MkI.fr (rm := rm) (K := [41, 43]) (S := [113]) m9 (by repeat (first | exact Fr.rf | assumption | refine Fr.aJ g ?_ (by decide) | refine Fr.aI g ?_ (by decide) | refine Fr.sI g ?_ (by decide) | refine Fr.sJ g ?_ (by decide))) (by decide)) fx (by decide)⟩)
        have fσ45 : Fr ra jx rm [26, 40, 41, 42, 43, 44, 46, 47, 48, 49, 60, 61, 62, 63, 64, 65, 81, 86, 87, 88, 89, 97, 98, 99, 100, 101, 102, 103, 104, 105, 106, 107, 108, 109] [27, 32, 66, 67, 92, 93, 96, 113] σ σ45 := Fr.tr (by refine Fr.aI g ?_ (by decide); refine Fr.aI g ?_ (by decide); refine Fr.sI g ?_ (by decide); exact fσ) (Fr.mor (fc) (by decide) (by decide))
        have t8 := ThE.fr (ThE.fr (jx := jx) (K := [41, 43]) (S := [113]) t9 (by repeat (first | exact Fr.rf | assumption | refine Fr.aJ g ?_ (by decide) | refine Fr.aI g ?_ (by decide) | refine Fr.sI g ?_ (by decide) | refine Fr.sJ g ?_ (by decide))) (by decide) (by decide)) fc (by decide) (by decide)
        have r8 := RecE.fr (RecE.fr (K := [41, 43]) (S := [113]) r9 (by repeat (first | exact Fr.rf | assumption | refine Fr.aJ g ?_ (by decide) | refine Fr.aI g ?_ (by decide) | refine Fr.sI g ?_ (by decide) | refine Fr.sJ g ?_ (by decide))) (by decide) (by decide)) fc (by decide) (by decide)
        have e8 := HeE.fr (HeE.fr (jx := jx) (K := [41, 43]) (S := [113]) e9 (by repeat (first | exact Fr.rf | assumption | refine Fr.aJ g ?_ (by decide) | refine Fr.aI g ?_ (by decide) | refine Fr.sI g ?_ (by decide) | refine Fr.sJ g ?_ (by decide))) (by decide) (by decide)) fc (by decide) (by decide)
        have m8 := MkI.fr (MkI.fr (rm := rm) (K := [41, 43]) (S := [113]) m9 (by repeat (first | exact Fr.rf | assumption | refine Fr.aJ g ?_ (by decide) | refine Fr.aI g ?_ (by decide) | refine Fr.sI g ?_ (by decide) | refine Fr.sJ g ?_ (by decide))) (by decide)) fc (by decide)
        have t9 := t8; have r9 := r8; have e9 := e8; have m9 := m8; clear t8 r8 e8 m8
        have eσ45_22 := fσ45.1 22 (by decide)
        have eσ45_23 := fσ45.1 23 (by decide)
        have eσ45_24 := fσ45.1 24 (by decide)
        have eσ45_25 := fσ45.1 25 (by decide)
        have eσ45_38 := fσ45.1 38 (by decide)
        have jσ45 := fσ45.2.2.1
        have pσ45 := fσ45.2.2.2
        have obσ45 := Fr.ob fσ45 hja (by decide)
        try simp only [forall_eq, rII, rIJ, rIP, rJJ, rJI, rJP, rPP, rPI, rPJ, g1, g2, g3, g4, g5, g6, g7, g8, Nat.reduceEqDiff, Nat.reduceAdd, false_and, and_false, true_and, and_true, reduceIte, nZ0, nZ1, eσ45_22.1, eσ45_22.2, eσ45_23.1, eσ45_23.2, eσ45_24.1, eσ45_24.2, eσ45_25.1, eσ45_25.2, eσ45_38.1, eσ45_38.2, fun a k => (jσ45 a k).1, fun a k => (jσ45 a k).2, pσ45, obσ45]
        have L148 : ∀ (fu148 : Nat) (τ148 : Sg) (v6 : Int), Rg ra jx rm τ148 → Fr ra jx rm [26, 40, 41, 42, 43, 44, 46, 47, 48, 49, 60, 61, 62, 63, 64, 65, 81, 86, 87, 88, 89, 97, 98, 99, 100, 101, 102, 103, 104, 105, 106, 107, 108, 109] [27, 32, 66, 67, 92, 93, 96, 113] σ τ148 → ((ThE ra rm τ148 ∧ RecE ra jx rm ja τ148 ∧ HeE ra rm τ148 ∧ MkI ra jx ja τ148) ∧ 0 ≤ v6 ∧ v6 ≤ 8) → ((8 - v6).toNat) < fu148 → wl_X16_sourceTurn_148 ra jx rm Q X fu148 τ148 v1 (gI σ (ra 38) v1.toNat) (((gJ σ (jx ja 8) (gI σ (ra 38) v1.toNat).toNat)).toInt32.toInt) ((64 * ((gJ σ (jx ja 8) (gI σ (ra 38) v1.toNat).toNat)).toInt32.toInt) + (gI σ (ra 43) v1.toNat)) r46 v6 := by
          intro fu148
          induction fu148 with
          | zero => intro τ148 _ _ _ _ h9; omega
          | succ fu148 ih148 =>
            intro τ148 v6 rτ148 fτ148 hi148 hm148
            unfold wl_X16_sourceTurn_148
            have eτ148_22 := fτ148.1 22 (by decide)
            have eτ148_23 := fτ148.1 23 (by decide)
            have eτ148_24 := fτ148.1 24 (by decide)
            have eτ148_25 := fτ148.1 25 (by decide)
            have eτ148_38 := fτ148.1 38 (by decide)
            have jτ148 := fτ148.2.2.1
            have pτ148 := fτ148.2.2.2
            have obτ148 := Fr.ob fτ148 hja (by decide)
            unfold w_X16_sourceTurn_148
            try simp only [forall_eq, rII, rIJ, rIP, rJJ, rJI, rJP, rPP, rPI, rPJ, g1, g2, g3, g4, g5, g6, g7, g8, Nat.reduceEqDiff, Nat.reduceAdd, false_and, and_false, true_and, and_true, reduceIte, nZ0, nZ1, eτ148_22.1, eτ148_22.2, eτ148_23.1, eτ148_23.2, eτ148_24.1, eτ148_24.2, eτ148_25.1, eτ148_25.2, eτ148_38.1, eτ148_38.2, fun a k => (jτ148 a k).1, fun a k => (jτ148 a k).2, pτ148, obτ148]
            obtain ⟨⟨t9, r9, e9, m9⟩, k1, k2⟩ := hi148
            split
            · rename_i hc152
              skip
              unfold w_X16_sourceTurn_198
              try simp only [forall_eq, rII, rIJ, rIP, rJJ, rJI, rJP, rPP, rPI, rPJ, g1, g2, g3, g4, g5, g6, g7, g8, Nat.reduceEqDiff, Nat.reduceAdd, false_and, and_false, true_and, and_true, reduceIte, nZ0, nZ1, eτ148_22.1, eτ148_22.2, eτ148_23.1, eτ148_23.2, eτ148_24.1, eτ148_24.2, eτ148_25.1, eτ148_25.2, eτ148_38.1, eτ148_38.2, fun a k => (jτ148 a k).1, fun a k => (jτ148 a k).2, pτ148, obτ148]
              refine ⟨by (first | omega | with_reducible assumption | (unfold rng; omega) | (unfold rng; (repeat' split) <;> omega) | grind), ?_⟩
              refine s_X16_emit (b4 := (ra 81)) (n4 := 8) g rτ148 (by first | exact hj | (rw [fτ148.2.2.2]; exact hj)) hja rfl (Or.inl ⟨81, rfl, by decide⟩) (by first | exact t9 | exact ThE.fr (jx := jx) (K := [40]) (S := []) t9 (by repeat (first | exact Fr.rf | assumption | refine Fr.aJ g ?_ (by decide) | refine Fr.aI g ?_ (by decide) | refine Fr.sI g ?_ (by decide) | refine Fr.sJ g ?_ (by decide))) (by decide) (by decide)) (by (try simp only [rII, rIJ, rIP, rJJ, rJI, rJP, rPP, rPI, rPJ, g1, g2, g3, g4, g5, g6, g7, g8, Nat.reduceEqDiff, Nat.reduceAdd, false_and, and_false, true_and, and_true, reduceIte, nZ0, nZ1, eτ148_22.1, eτ148_22.2, eτ148_23.1, eτ148_23.2, eτ148_24.1, eτ148_24.2, eτ148_25.1, eτ148_25.2, eτ148_38.1, eτ148_38.2, fun a k => (jτ148 a k).1, fun a k => (jτ148 a k).2, pτ148, obτ148]) <;> (first | omega | with_reducible assumption | (unfold rng; omega) | (unfold rng; (repeat' split) <;> omega) | grind)) (by (try simp only [rII, rIJ, rIP, rJJ, rJI, rJP, rPP, rPI, rPJ, g1, g2, g3, g4, g5, g6, g7, g8, Nat.reduceEqDiff, Nat.reduceAdd, false_and, and_false, true_and, and_true, reduceIte, nZ0, nZ1, eτ148_22.1, eτ148_22.2, eτ148_23.1, eτ148_23.2, eτ148_24.1, eτ148_24.2, eτ148_25.1, eτ148_25.2, eτ148_38.1, eτ148_38.2, fun a k => (jτ148 a k).1, fun a k => (jτ148 a k).2, pτ148, obτ148]) <;> exact Int.le_trans (rσ.2.2.2 23 _) (by decide)) (by (try simp only [rII, rIJ, rIP, rJJ, rJI, rJP, rPP, rPI, rPJ, g1, g2, g3, g4, g5, g6, g7, g8, Nat.reduceEqDiff, Nat.reduceAdd, false_and, and_false, true_and, and_true, reduceIte, nZ0, nZ1, eτ148_22.1, eτ148_22.2, eτ148_23.1, eτ148_23.2, eτ148_24.1, eτ148_24.2, eτ148_25.1, eτ148_25.2, eτ148_38.1, eτ148_38.2, fun a k => (jτ148 a k).1, fun a k => (jτ148 a k).2, pτ148, obτ148]) <;> (first | omega | with_reducible assumption | (unfold rng; omega) | (unfold rng; (repeat' split) <;> omega) | grind)) (by (try simp only [rII, rIJ, rIP, rJJ, rJI, rJP, rPP, rPI, rPJ, g1, g2, g3, g4, g5, g6, g7, g8, Nat.reduceEqDiff, Nat.reduceAdd, false_and, and_false, true_and, and_true, reduceIte, nZ0, nZ1, eτ148_22.1, eτ148_22.2, eτ148_23.1, eτ148_23.2, eτ148_24.1, eτ148_24.2, eτ148_25.1, eτ148_25.2, eτ148_38.1, eτ148_38.2, fun a k => (jτ148 a k).1, fun a k => (jτ148 a k).2, pτ148, obτ148]) <;> (first | omega | with_reducible assumption | (unfold rng; omega) | (unfold rng; (repeat' split) <;> omega) | grind)) (by (try simp only [rII, rIJ, rIP, rJJ, rJI, rJP, rPP, rPI, rPJ, g1, g2, g3, g4, g5, g6, g7, g8, Nat.reduceEqDiff, Nat.reduceAdd, false_and, and_false, true_and, and_true, reduceIte, nZ0, nZ1, eτ148_22.1, eτ148_22.2, eτ148_23.1, eτ148_23.2, eτ148_24.1, eτ148_24.2, eτ148_25.1, eτ148_25.2, eτ148_38.1, eτ148_38.2, fun a k => (jτ148 a k).1, fun a k => (jτ148 a k).2, pτ148, obτ148]) <;> (first | omega | with_reducible assumption | (unfold rng; omega) | (unfold rng; (repeat' split) <;> omega) | grind)) (by (try simp only [rII, rIJ, rIP, rJJ, rJI, rJP, rPP, rPI, rPJ, g1, g2, g3, g4, g5, g6, g7, g8, Nat.reduceEqDiff, Nat.reduceAdd, false_and, and_false, true_and, and_true, reduceIte, nZ0, nZ1, eτ148_22.1, eτ148_22.2, eτ148_23.1, eτ148_23.2, eτ148_24.1, eτ148_24.2, eτ148_25.1, eτ148_25.2, eτ148_38.1, eτ148_38.2, fun a k => (jτ148 a k).1, fun a k => (jτ148 a k).2, pτ148, obτ148]) <;> first | exact hp | (rw [(fτ148.2.1 33 (by decide)).1]; exact hp)) (fun σ47 _ rσ47 fc p9 => ?_) (fun σx E rx fx px => hX _ _ rx (Fr.tr fτ148 (Fr.mor (fx) (by decide) (by decide))) ⟨px.1, px.2, RecE.fr r9 fx (by decide) (by decide), HeE.fr e9 fx (by decide) (by decide), MkI.fr m9 fx (by decide)⟩)
              have fσ47 : Fr ra jx rm [26, 40, 41, 42, 43, 44, 46, 47, 48, 49, 60, 61, 62, 63, 64, 65, 81, 86, 87, 88, 89, 97, 98, 99, 100, 101, 102, 103, 104, 105, 106, 107, 108, 109] [27, 32, 66, 67, 92, 93, 96, 113] σ σ47 := Fr.tr fτ148 (Fr.mor (fc) (by decide) (by decide))
              have t8 := p9
              have r8 := RecE.fr r9 fc (by decide) (by decide)
              have e8 := HeE.fr e9 fc (by decide) (by decide)
              have m8 := MkI.fr m9 fc (by decide)
              have t9 := t8; have r9 := r8; have e9 := e8; have m9 := m8; clear t8 r8 e8 m8
              have eσ47_22 := fσ47.1 22 (by decide)
              have eσ47_23 := fσ47.1 23 (by decide)
              have eσ47_24 := fσ47.1 24 (by decide)
              have eσ47_25 := fσ47.1 25 (by decide)
              have eσ47_38 := fσ47.1 38 (by decide)
              have jσ47 := fσ47.2.2.1
              have pσ47 := fσ47.2.2.2
              have obσ47 := Fr.ob fσ47 hja (by decide)
              try simp only [forall_eq, rII, rIJ, rIP, rJJ, rJI, rJP, rPP, rPI, rPJ, g1, g2, g3, g4, g5, g6, g7, g8, Nat.reduceEqDiff, Nat.reduceAdd, false_and, and_false, true_and, and_true, reduceIte, nZ0, nZ1, eσ47_22.1, eσ47_22.2, eσ47_23.1, eσ47_23.2, eσ47_24.1, eσ47_24.2, eσ47_25.1, eσ47_25.2, eσ47_38.1, eσ47_38.2, fun a k => (jσ47 a k).1, fun a k => (jσ47 a k).2, pσ47, obσ47]
              refine ⟨by (first | omega | with_reducible assumption | (unfold rng; omega) | (unfold rng; (repeat' split) <;> omega) | grind), ?_⟩
              have q10 := rσ47.1 43 (v1.toNat); simp only [rgT] at q10
              refine s2_X16_readSoFar g rσ47 (by (try simp only [rII, rIJ, rIP, rJJ, rJI, rJP, rPP, rPI, rPJ, g1, g2, g3, g4, g5, g6, g7, g8, Nat.reduceEqDiff, Nat.reduceAdd, false_and, and_false, true_and, and_true, reduceIte, nZ0, nZ1, eσ47_22.1, eσ47_22.2, eσ47_23.1, eσ47_23.2, eσ47_24.1, eσ47_24.2, eσ47_25.1, eσ47_25.2, eσ47_38.1, eσ47_38.2, fun a k => (jσ47 a k).1, fun a k => (jσ47 a k).2, pσ47, obσ47]) <;> (first | omega | with_reducible assumption | (unfold rng; omega) | (unfold rng; (repeat' split) <;> omega) | grind)) (by (try simp only [rII, rIJ, rIP, rJJ, rJI, rJP, rPP, rPI, rPJ, g1, g2, g3, g4, g5, g6, g7, g8, Nat.reduceEqDiff, Nat.reduceAdd, false_and, and_false, true_and, and_true, reduceIte, nZ0, nZ1, eσ47_22.1, eσ47_22.2, eσ47_23.1, eσ47_23.2, eσ47_24.1, eσ47_24.2, eσ47_25.1, eσ47_25.2, eσ47_38.1, eσ47_38.2, fun a k => (jσ47 a k).1, fun a k => (jσ47 a k).2, pσ47, obσ47]) <;> (first | omega | with_reducible assumption | (unfold rng; omega) | (unfold rng; (repeat' split) <;> omega) | grind)) (fun r49 p11 => ?_)
              try simp only [forall_eq, rII, rIJ, rIP, rJJ, rJI, rJP, rPP, rPI, rPJ, g1, g2, g3, g4, g5, g6, g7, g8, Nat.reduceEqDiff, Nat.reduceAdd, false_and, and_false, true_and, and_true, reduceIte, nZ0, nZ1, eσ47_22.1, eσ47_22.2, eσ47_23.1, eσ47_23.2, eσ47_24.1, eσ47_24.2, eσ47_25.1, eσ47_25.2, eσ47_38.1, eσ47_38.2, fun a k => (jσ47 a k).1, fun a k => (jσ47 a k).2, pσ47, obσ47]
              have w9 := i64_sub3 (b := gJ σ (jx ja 9) (gI σ (ra 38) v1.toNat).toNat) p11.1 p11.2 s3 s4
              have w8 := p11
              refine ⟨ja, by exact hj, hja, ?_⟩
              refine ⟨by (first | omega | with_reducible assumption | (unfold rng; omega) | (unfold rng; (repeat' split) <;> omega) | grind), ?_⟩
              refine ⟨by (first | omega | with_reducible assumption | (unfold rng; omega) | (unfold rng; (repeat' split) <;> omega) | grind), ?_⟩
              split
              · rename_i hc251
                skip
                unfold w_X16_sourceTurn_270
                try simp only [forall_eq, rII, rIJ, rIP, rJJ, rJI, rJP, rPP, rPI, rPJ, g1, g2, g3, g4, g5, g6, g7, g8, Nat.reduceEqDiff, Nat.reduceAdd, false_and, and_false, true_and, and_true, reduceIte, nZ0, nZ1, eσ47_22.1, eσ47_22.2, eσ47_23.1, eσ47_23.2, eσ47_24.1, eσ47_24.2, eσ47_25.1, eσ47_25.2, eσ47_38.1, eσ47_38.2, fun a k => (jσ47 a k).1, fun a k => (jσ47 a k).2, pσ47, obσ47]
                refine hQ _ _ ?_ ?_ ?_
                · exact rσ47
                · exact fσ47
                · first | exact ⟨t9, r9, e9, m9⟩ | exact ⟨ThE.fr (jx := jx) (K := [41, 42, 43]) (S := [113]) t9 (by repeat (first | exact Fr.rf | assumption | refine Fr.aJ g ?_ (by decide) | refine Fr.aI g ?_ (by decide) | refine Fr.sI g ?_ (by decide) | refine Fr.sJ g ?_ (by decide))) (by decide) (by decide), RecE.fr (K := [41, 42, 43]) (S := [113]) r9 (by repeat (first | exact Fr.rf | assumption | refine Fr.aJ g ?_ (by decide) | refine Fr.aI g ?_ (by decide) | refine Fr.sI g ?_ (by decide) | refine Fr.sJ g ?_ (by decide))) (by decide) (by decide), HeE.fr (jx := jx) (K := [41, 42, 43]) (S := [113]) e9 (by repeat (first | exact Fr.rf | assumption | refine Fr.aJ g ?_ (by decide) | refine Fr.aI g ?_ (by decide) | refine Fr.sI g ?_ (by decide) | refine Fr.sJ g ?_ (by decide))) (by decide) (by decide), MkI.fr (rm := rm) (K := [41, 42, 43]) (S := [113]) m9 (by repeat (first | exact Fr.rf | assumption | refine Fr.aJ g ?_ (by decide) | refine Fr.aI g ?_ (by decide) | refine Fr.sI g ?_ (by decide) | refine Fr.sJ g ?_ (by decide))) (by decide)⟩
              · rename_i hc251
                skip
                unfold w_X16_sourceTurn_254
                try simp only [forall_eq, rII, rIJ, rIP, rJJ, rJI, rJP, rPP, rPI, rPJ, g1, g2, g3, g4, g5, g6, g7, g8, Nat.reduceEqDiff, Nat.reduceAdd, false_and, and_false, true_and, and_true, reduceIte, nZ0, nZ1, eσ47_22.1, eσ47_22.2, eσ47_23.1, eσ47_23.2, eσ47_24.1, eσ47_24.2, eσ47_25.1, eσ47_25.2, eσ47_38.1, eσ47_38.2, fun a k => (jσ47 a k).1, fun a k => (jσ47 a k).2, pσ47, obσ47]
                refine ⟨by (first | omega | with_reducible assumption | (unfold rng; omega) | (unfold rng; (repeat' split) <;> omega) | grind), ?_⟩
                refine s_X16_spread g (by refine Rg.aJ g ?_ (by simp only [rlT]; first | with_reducible assumption | omega | exact Int64.toInt_le _ | (rw [Int64.toInt_ofInt_of_le (by omega) (by omega)]; omega) | grind); exact rσ47) (by first | exact t9 | exact ThE.fr (jx := jx) (K := [40]) (S := []) t9 (by repeat (first | exact Fr.rf | assumption | refine Fr.aJ g ?_ (by decide) | refine Fr.aI g ?_ (by decide) | refine Fr.sI g ?_ (by decide) | refine Fr.sJ g ?_ (by decide))) (by decide) (by decide)) (by (try simp only [rII, rIJ, rIP, rJJ, rJI, rJP, rPP, rPI, rPJ, g1, g2, g3, g4, g5, g6, g7, g8, Nat.reduceEqDiff, Nat.reduceAdd, false_and, and_false, true_and, and_true, reduceIte, nZ0, nZ1, eσ47_22.1, eσ47_22.2, eσ47_23.1, eσ47_23.2, eσ47_24.1, eσ47_24.2, eσ47_25.1, eσ47_25.2, eσ47_38.1, eσ47_38.2, fun a k => (jσ47 a k).1, fun a k => (jσ47 a k).2, pσ47, obσ47]) <;> (first | omega | with_reducible assumption | (unfold rng; omega) | (unfold rng; (repeat' split) <;> omega) | grind)) (by (try simp only [rII, rIJ, rIP, rJJ, rJI, rJP, rPP, rPI, rPJ, g1, g2, g3, g4, g5, g6, g7, g8, Nat.reduceEqDiff, Nat.reduceAdd, false_and, and_false, true_and, and_true, reduceIte, nZ0, nZ1, eσ47_22.1, eσ47_22.2, eσ47_23.1, eσ47_23.2, eσ47_24.1, eσ47_24.2, eσ47_25.1, eσ47_25.2, eσ47_38.1, eσ47_38.2, fun a k => (jσ47 a k).1, fun a k => (jσ47 a k).2, pσ47, obσ47]) <;> (first | omega | with_reducible assumption | (unfold rng; omega) | (unfold rng; (repeat' split) <;> omega) | grind)) (by first | decide | omega | exact big) (fun σ52 _ rσ52 fc p12 => ?_) (fun σx E rx fx px => hX _ _ rx (Fr.tr (by refine Fr.aJ g ?_ (by decide); exact fσ47) (Fr.mor (fx) (by decide) (by decide))) ⟨px.1, px.2, RecE.fr (RecE.fr (K := [40]) (S := []) r9 (by repeat (first | exact Fr.rf | assumption | refine Fr.aJ g ?_ (by decide) | refine Fr.aI g ?_ (by decide) | refine Fr.sI g ?_ (by decide) | refine Fr.sJ g ?_ (by decide))) (by decide) (by decide)) fx (by decide) (by decide), HeE.fr (HeE.fr (jx := jx) (K := [40]) (S := []) e9 (by repeat (first | exact Fr.rf | assumption | refine Fr.aJ g ?_ (by decide) | refine Fr.aI g ?_ (by decide) | refine Fr.sI g ?_ (by decide) | refine Fr.sJ g ?_ (by decide))) (by decide) (by decide)) fx (by decide) (by decide), MkI.fr (MkI.fr (rm := rm) (K := [40]) (S := []) m9 (by repeat (first | exact Fr.rf | assumption | refine Fr.aJ g ?_ (by decide) | refine Fr.aI g ?_ (by decide) | refine Fr.sI g ?_ (by decide) | refine Fr.sJ g ?_ (by decide))) (by decide)) fx (by decide)⟩)
                have fσ52 : Fr ra jx rm [26, 40, 41, 42, 43, 44, 46, 47, 48, 49, 60, 61, 62, 63, 64, 65, 81, 86, 87, 88, 89, 97, 98, 99, 100, 101, 102, 103, 104, 105, 106, 107, 108, 109] [27, 32, 66, 67, 92, 93, 96, 113] σ σ52 := Fr.tr (by refine Fr.aJ g ?_ (by decide); exact fσ47) (Fr.mor (fc) (by decide) (by decide))
                have t8 := p12
                have r8 := RecE.fr (RecE.fr (K := [40]) (S := []) r9 (by repeat (first | exact Fr.rf | assumption | refine Fr.aJ g ?_ (by decide) | refine Fr.aI g ?_ (by decide) | refine Fr.sI g ?_ (by decide) | refine Fr.sJ g ?_ (by decide))) (by decide) (by decide)) fc (by decide) (by decide)
                have e8 := HeE.fr (HeE.fr (jx := jx) (K := [40]) (S := []) e9 (by repeat (first | exact Fr.rf | assumption | refine Fr.aJ g ?_ (by decide) | refine Fr.aI g ?_ (by decide) | refine Fr.sI g ?_ (by decide) | refine Fr.sJ g ?_ (by decide))) (by decide) (by decide)) fc (by decide) (by decide)
                have m8 := MkI.fr (MkI.fr (rm := rm) (K := [40]) (S := []) m9 (by repeat (first | exact Fr.rf | assumption | refine Fr.aJ g ?_ (by decide) | refine Fr.aI g ?_ (by decide) | refine Fr.sI g ?_ (by decide) | refine Fr.sJ g ?_ (by decide))) (by decide)) fc (by decide)
                have t9 := t8; have r9 := r8; have e9 := e8; have m9 := m8; clear t8 r8 e8 m8
                have eσ52_22 := fσ52.1 22 (by decide)
                have eσ52_23 := fσ52.1 23 (by decide)
                have eσ52_24 := fσ52.1 24 (by decide)
                have eσ52_25 := fσ52.1 25 (by decide)
                have eσ52_38 := fσ52.1 38 (by decide)
                have jσ52 := fσ52.2.2.1
                have pσ52 := fσ52.2.2.2
                have obσ52 := Fr.ob fσ52 hja (by decide)
                try simp only [forall_eq, rII, rIJ, rIP, rJJ, rJI, rJP, rPP, rPI, rPJ, g1, g2, g3, g4, g5, g6, g7, g8, Nat.reduceEqDiff, Nat.reduceAdd, false_and, and_false, true_and, and_true, reduceIte, nZ0, nZ1, eσ52_22.1, eσ52_22.2, eσ52_23.1, eσ52_23.2, eσ52_24.1, eσ52_24.2, eσ52_25.1, eσ52_25.2, eσ52_38.1, eσ52_38.2, fun a k => (jσ52 a k).1, fun a k => (jσ52 a k).2, pσ52, obσ52]
                unfold w_X16_sourceTurn_270
                try simp only [forall_eq, rII, rIJ, rIP, rJJ, rJI, rJP, rPP, rPI, rPJ, g1, g2, g3, g4, g5, g6, g7, g8, Nat.reduceEqDiff, Nat.reduceAdd, false_and, and_false, true_and, and_true, reduceIte, nZ0, nZ1, eσ52_22.1, eσ52_22.2, eσ52_23.1, eσ52_23.2, eσ52_24.1, eσ52_24.2, eσ52_25.1, eσ52_25.2, eσ52_38.1, eσ52_38.2, fun a k => (jσ52 a k).1, fun a k => (jσ52 a k).2, pσ52, obσ52]
                refine hQ _ _ ?_ ?_ ?_
                · exact rσ52
                · exact fσ52
                · first | exact ⟨t9, r9, e9, m9⟩ | exact ⟨ThE.fr (jx := jx) (K := [41, 42, 43]) (S := [113]) t9 (by repeat (first | exact Fr.rf | assumption | refine Fr.aJ g ?_ (by decide) | refine Fr.aI g ?_ (by decide) | refine Fr.sI g ?_ (by decide) | refine Fr.sJ g ?_ (by decide))) (by decide) (by decide), RecE.fr (K := [41, 42, 43]) (S := [113]) r9 (by repeat (first | exact Fr.rf | assumption | refine Fr.aJ g ?_ (by decide) | refine Fr.aI g ?_ (by decide) | refine Fr.sI g ?_ (by decide) | refine Fr.sJ g ?_ (by decide))) (by decide) (by decide), HeE.fr (jx := jx) (K := [41, 42, 43]) (S := [113]) e9 (by repeat (first | exact Fr.rf | assumption | refine Fr.aJ g ?_ (by decide) | refine Fr.aI g ?_ (by decide) | refine Fr.sI g ?_ (by decide) | refine Fr.sJ g ?_ (by decide))) (by decide) (by decide), MkI.fr (rm := rm) (K := [41, 42, 43]) (S := [113]) m9 (by repeat (first | exact Fr.rf | assumption | refine Fr.aJ g ?_ (by decide) | refine Fr.aI g ?_ (by decide) | refine Fr.sI g ?_ (by decide) | refine Fr.sJ g ?_ (by decide))) (by decide)⟩
            · rename_i hc152
              skip
              unfold w_X16_sourceTurn_155
              try simp only [forall_eq, rII, rIJ, rIP, rJJ, rJI, rJP, rPP, rPI, rPJ, g1, g2, g3, g4, g5, g6, g7, g8, Nat.reduceEqDiff, Nat.reduceAdd, false_and, and_false, true_and, and_true, reduceIte, nZ0, nZ1, eτ148_22.1, eτ148_22.2, eτ148_23.1, eτ148_23.2, eτ148_24.1, eτ148_24.2, eτ148_25.1, eτ148_25.2, eτ148_38.1, eτ148_38.2, fun a k => (jτ148 a k).1, fun a k => (jτ148 a k).2, pτ148, obτ148]
              refine ⟨ja, by exact hj, hja, ?_⟩
              refine ⟨by (first | omega | with_reducible assumption | (unfold rng; omega) | (unfold rng; (repeat' split) <;> omega) | grind), ?_⟩
              have q13 := rσ.2.2.1 ja 6 ((gI σ (ra 38) v1.toNat).toNat); simp only [rgJ] at q13
              split
              · rename_i hc172
                skip
                unfold w_X16_sourceTurn_190
                try simp only [forall_eq, rII, rIJ, rIP, rJJ, rJI, rJP, rPP, rPI, rPJ, g1, g2, g3, g4, g5, g6, g7, g8, Nat.reduceEqDiff, Nat.reduceAdd, false_and, and_false, true_and, and_true, reduceIte, nZ0, nZ1, eτ148_22.1, eτ148_22.2, eτ148_23.1, eτ148_23.2, eτ148_24.1, eτ148_24.2, eτ148_25.1, eτ148_25.2, eτ148_38.1, eτ148_38.2, fun a k => (jτ148 a k).1, fun a k => (jτ148 a k).2, pτ148, obτ148]
                unfold w_X16_sourceTurn_191
                try simp only [forall_eq, rII, rIJ, rIP, rJJ, rJI, rJP, rPP, rPI, rPJ, g1, g2, g3, g4, g5, g6, g7, g8, Nat.reduceEqDiff, Nat.reduceAdd, false_and, and_false, true_and, and_true, reduceIte, nZ0, nZ1, eτ148_22.1, eτ148_22.2, eτ148_23.1, eτ148_23.2, eτ148_24.1, eτ148_24.2, eτ148_25.1, eτ148_25.2, eτ148_38.1, eτ148_38.2, fun a k => (jτ148 a k).1, fun a k => (jτ148 a k).2, pτ148, obτ148]
                refine ⟨by (first | omega | with_reducible assumption | (unfold rng; omega) | (unfold rng; (repeat' split) <;> omega) | grind), ?_⟩
                refine ⟨by (first | omega | with_reducible assumption | (unfold rng; omega) | (unfold rng; (repeat' split) <;> omega) | grind), ?_⟩
                refine ih148 _ _ ?_ ?_ ?_ ?_
                · refine Rg.aJ g ?_ (by simp only [rlT]; first | with_reducible assumption | omega | exact Int64.toInt_le _ | (rw [Int64.toInt_ofInt_of_le (by omega) (by omega)]; omega) | grind); exact rτ148
                · refine Fr.aJ g ?_ (by decide); exact fτ148
                · first | exact ⟨⟨t9, r9, e9, m9⟩, by omega, by omega⟩ | exact ⟨⟨ThE.fr (jx := jx) (K := [81]) (S := []) t9 (by repeat (first | exact Fr.rf | assumption | refine Fr.aJ g ?_ (by decide) | refine Fr.aI g ?_ (by decide) | refine Fr.sI g ?_ (by decide) | refine Fr.sJ g ?_ (by decide))) (by decide) (by decide), RecE.fr (K := [81]) (S := []) r9 (by repeat (first | exact Fr.rf | assumption | refine Fr.aJ g ?_ (by decide) | refine Fr.aI g ?_ (by decide) | refine Fr.sI g ?_ (by decide) | refine Fr.sJ g ?_ (by decide))) (by decide) (by decide), HeE.fr (jx := jx) (K := [81]) (S := []) e9 (by repeat (first | exact Fr.rf | assumption | refine Fr.aJ g ?_ (by decide) | refine Fr.aI g ?_ (by decide) | refine Fr.sI g ?_ (by decide) | refine Fr.sJ g ?_ (by decide))) (by decide) (by decide), MkI.fr (rm := rm) (K := [81]) (S := []) m9 (by repeat (first | exact Fr.rf | assumption | refine Fr.aJ g ?_ (by decide) | refine Fr.aI g ?_ (by decide) | refine Fr.sI g ?_ (by decide) | refine Fr.sJ g ?_ (by decide))) (by decide)⟩, by omega, by omega⟩
                · (try simp only [rII, rIJ, rIP, rJJ, rJI, rJP, rPP, rPI, rPJ, g1, g2, g3, g4, g5, g6, g7, g8, Nat.reduceEqDiff, Nat.reduceAdd, false_and, and_false, true_and, and_true, reduceIte, nZ0, nZ1, eτ148_22.1, eτ148_22.2, eτ148_23.1, eτ148_23.2, eτ148_24.1, eτ148_24.2, eτ148_25.1, eτ148_25.2, eτ148_38.1, eτ148_38.2, fun a k => (jτ148 a k).1, fun a k => (jτ148 a k).2, pτ148, obτ148]) <;> (first | omega | with_reducible assumption | (unfold rng; omega) | (unfold rng; (repeat' split) <;> omega) | grind)
              · rename_i hc172
                skip
                unfold w_X16_sourceTurn_175
                try simp only [forall_eq, rII, rIJ, rIP, rJJ, rJI, rJP, rPP, rPI, rPJ, g1, g2, g3, g4, g5, g6, g7, g8, Nat.reduceEqDiff, Nat.reduceAdd, false_and, and_false, true_and, and_true, reduceIte, nZ0, nZ1, eτ148_22.1, eτ148_22.2, eτ148_23.1, eτ148_23.2, eτ148_24.1, eτ148_24.2, eτ148_25.1, eτ148_25.2, eτ148_38.1, eτ148_38.2, fun a k => (jτ148 a k).1, fun a k => (jτ148 a k).2, pτ148, obτ148]
                refine ⟨by (first | omega | with_reducible assumption | (unfold rng; omega) | (unfold rng; (repeat' split) <;> omega) | grind), ?_⟩
                refine ⟨by (first | omega | with_reducible assumption | (unfold rng; omega) | (unfold rng; (repeat' split) <;> omega) | grind), ?_⟩
                refine ⟨by (first | omega | with_reducible assumption | (unfold rng; omega) | (unfold rng; (repeat' split) <;> omega) | grind), ?_⟩
                unfold w_X16_sourceTurn_191
                try simp only [forall_eq, rII, rIJ, rIP, rJJ, rJI, rJP, rPP, rPI, rPJ, g1, g2, g3, g4, g5, g6, g7, g8, Nat.reduceEqDiff, Nat.reduceAdd, false_and, and_false, true_and, and_true, reduceIte, nZ0, nZ1, eτ148_22.1, eτ148_22.2, eτ148_23.1, eτ148_23.2, eτ148_24.1, eτ148_24.2, eτ148_25.1, eτ148_25.2, eτ148_38.1, eτ148_38.2, fun a k => (jτ148 a k).1, fun a k => (jτ148 a k).2, pτ148, obτ148]
                refine ⟨by (first | omega | with_reducible assumption | (unfold rng; omega) | (unfold rng; (repeat' split) <;> omega) | grind), ?_⟩
                refine ⟨by (first | omega | with_reducible assumption | (unfold rng; omega) | (unfold rng; (repeat' split) <;> omega) | grind), ?_⟩
                refine ih148 _ _ ?_ ?_ ?_ ?_
                · refine Rg.aJ g ?_ (by simp only [rlT]; first | with_reducible assumption | omega | exact Int64.toInt_le _ | (rw [Int64.toInt_ofInt_of_le (by omega) (by omega)]; omega) | grind); exact rτ148
                · refine Fr.aJ g ?_ (by decide); exact fτ148
                · first | exact ⟨⟨t9, r9, e9, m9⟩, by omega, by omega⟩ | exact ⟨⟨ThE.fr (jx := jx) (K := [81]) (S := []) t9 (by repeat (first | exact Fr.rf | assumption | refine Fr.aJ g ?_ (by decide) | refine Fr.aI g ?_ (by decide) | refine Fr.sI g ?_ (by decide) | refine Fr.sJ g ?_ (by decide))) (by decide) (by decide), RecE.fr (K := [81]) (S := []) r9 (by repeat (first | exact Fr.rf | assumption | refine Fr.aJ g ?_ (by decide) | refine Fr.aI g ?_ (by decide) | refine Fr.sI g ?_ (by decide) | refine Fr.sJ g ?_ (by decide))) (by decide) (by decide), HeE.fr (jx := jx) (K := [81]) (S := []) e9 (by repeat (first | exact Fr.rf | assumption | refine Fr.aJ g ?_ (by decide) | refine Fr.aI g ?_ (by decide) | refine Fr.sI g ?_ (by decide) | refine Fr.sJ g ?_ (by decide))) (by decide) (by decide), MkI.fr (rm := rm) (K := [81]) (S := []) m9 (by repeat (first | exact Fr.rf | assumption | refine Fr.aJ g ?_ (by decide) | refine Fr.aI g ?_ (by decide) | refine Fr.sI g ?_ (by decide) | refine Fr.sJ g ?_ (by decide))) (by decide)⟩, by omega, by omega⟩
                · (try simp only [rII, rIJ, rIP, rJJ, rJI, rJP, rPP, rPI, rPJ, g1, g2, g3, g4, g5, g6, g7, g8, Nat.reduceEqDiff, Nat.reduceAdd, false_and, and_false, true_and, and_true, reduceIte, nZ0, nZ1, eτ148_22.1, eτ148_22.2, eτ148_23.1, eτ148_23.2, eτ148_24.1, eτ148_24.2, eτ148_25.1, eτ148_25.2, eτ148_38.1, eτ148_38.2, fun a k => (jτ148 a k).1, fun a k => (jτ148 a k).2, pτ148, obτ148]) <;> (first | omega | with_reducible assumption | (unfold rng; omega) | (unfold rng; (repeat' split) <;> omega) | grind)
        refine ⟨_, L148 _ _ _ ?_ ?_ ?_ (Nat.lt_succ_self _)⟩
        · exact rσ45
        · exact fσ45
        · first | exact ⟨⟨t9, r9, e9, m9⟩, by omega, by omega⟩ | exact ⟨⟨ThE.fr (jx := jx) (K := [81]) (S := []) t9 (by repeat (first | exact Fr.rf | assumption | refine Fr.aJ g ?_ (by decide) | refine Fr.aI g ?_ (by decide) | refine Fr.sI g ?_ (by decide) | refine Fr.sJ g ?_ (by decide))) (by decide) (by decide), RecE.fr (K := [81]) (S := []) r9 (by repeat (first | exact Fr.rf | assumption | refine Fr.aJ g ?_ (by decide) | refine Fr.aI g ?_ (by decide) | refine Fr.sI g ?_ (by decide) | refine Fr.sJ g ?_ (by decide))) (by decide) (by decide), HeE.fr (jx := jx) (K := [81]) (S := []) e9 (by repeat (first | exact Fr.rf | assumption | refine Fr.aJ g ?_ (by decide) | refine Fr.aI g ?_ (by decide) | refine Fr.sI g ?_ (by decide) | refine Fr.sJ g ?_ (by decide))) (by decide) (by decide), MkI.fr (rm := rm) (K := [81]) (S := []) m9 (by repeat (first | exact Fr.rf | assumption | refine Fr.aJ g ?_ (by decide) | refine Fr.aI g ?_ (by decide) | refine Fr.sI g ?_ (by decide) | refine Fr.sJ g ?_ (by decide))) (by decide)⟩, by omega, by omega⟩
      · rename_i hc115
        skip
        unfold w_X16_sourceTurn_118
        try simp only [forall_eq, rII, rIJ, rIP, rJJ, rJI, rJP, rPP, rPI, rPJ, g1, g2, g3, g4, g5, g6, g7, g8, Nat.reduceEqDiff, Nat.reduceAdd, false_and, and_false, true_and, and_true, reduceIte, nZ0, nZ1]
        refine ⟨by (first | omega | with_reducible assumption | (unfold rng; omega) | (unfold rng; (repeat' split) <;> omega) | grind), ?_⟩
        refine ⟨by (first | omega | with_reducible assumption | (unfold rng; omega) | (unfold rng; (repeat' split) <;> omega) | grind), ?_⟩
        have q14 := rσ.1 42 (v1.toNat); simp only [rgT] at q14
        refine hQ _ _ ?_ ?_ ?_
        · refine Rg.aI g ?_ (by simp only [rgT]; first | with_reducible exact nZ_rng _ | with_reducible exact nB_rng _ | with_reducible exact wr_rng _ | with_reducible exact i32any _ | (first | omega | with_reducible assumption | (unfold rng; omega) | (unfold rng; (repeat' split) <;> omega) | grind)); refine Rg.aI g ?_ (by simp only [rgT]; first | with_reducible exact nZ_rng _ | with_reducible exact nB_rng _ | with_reducible exact wr_rng _ | with_reducible exact i32any _ | (first | omega | with_reducible assumption | (unfold rng; omega) | (unfold rng; (repeat' split) <;> omega) | grind)); refine Rg.aI g ?_ (by simp only [rgT]; first | with_reducible exact nZ_rng _ | with_reducible exact nB_rng _ | with_reducible exact wr_rng _ | with_reducible exact i32any _ | (first | omega | with_reducible assumption | (unfold rng; omega) | (unfold rng; (repeat' split) <;> omega) | grind)); refine Rg.sI g ?_ (by simp only [rgS]; first | with_reducible exact nZ_rng _ | with_reducible exact nB_rng _ | with_reducible exact wr_rng _ | with_reducible exact i32any _ | (first | omega | with_reducible assumption | (unfold rng; omega) | (unfold rng; (repeat' split) <;> omega) | grind)); exact rσ
        · refine Fr.aI g ?_ (by decide); refine Fr.aI g ?_ (by decide); refine Fr.aI g ?_ (by decide); refine Fr.sI g ?_ (by decide); exact fσ
        · first | exact ⟨t9, r9, e9, m9⟩ | exact ⟨ThE.fr (jx := jx) (K := [41, 42, 43]) (S := [113]) t9 (by repeat (first | exact Fr.rf | assumption | refine Fr.aJ g ?_ (by decide) | refine Fr.aI g ?_ (by decide) | refine Fr.sI g ?_ (by decide) | refine Fr.sJ g ?_ (by decide))) (by decide) (by decide), RecE.fr (K := [41, 42, 43]) (S := [113]) r9 (by repeat (first | exact Fr.rf | assumption | refine Fr.aJ g ?_ (by decide) | refine Fr.aI g ?_ (by decide) | refine Fr.sI g ?_ (by decide) | refine Fr.sJ g ?_ (by decide))) (by decide) (by decide), HeE.fr (jx := jx) (K := [41, 42, 43]) (S := [113]) e9 (by repeat (first | exact Fr.rf | assumption | refine Fr.aJ g ?_ (by decide) | refine Fr.aI g ?_ (by decide) | refine Fr.sI g ?_ (by decide) | refine Fr.sJ g ?_ (by decide))) (by decide) (by decide), MkI.fr (rm := rm) (K := [41, 42, 43]) (S := [113]) m9 (by repeat (first | exact Fr.rf | assumption | refine Fr.aJ g ?_ (by decide) | refine Fr.aI g ?_ (by decide) | refine Fr.sI g ?_ (by decide) | refine Fr.sJ g ?_ (by decide))) (by decide)⟩
  · rename_i hc22
    skip
    unfold w_X16_sourceTurn_25
    try simp only [forall_eq, rII, rIJ, rIP, rJJ, rJI, rJP, rPP, rPI, rPJ, g1, g2, g3, g4, g5, g6, g7, g8, Nat.reduceEqDiff, Nat.reduceAdd, false_and, and_false, true_and, and_true, reduceIte, nZ0, nZ1]
    refine ⟨by (first | omega | with_reducible assumption | (unfold rng; omega) | (unfold rng; (repeat' split) <;> omega) | grind), ?_⟩
    have q15 := rσ.1 44 (v1.toNat); simp only [rgT] at q15
    split
    · rename_i hc31
      skip
      unfold w_X16_sourceTurn_48
      try simp only [forall_eq, rII, rIJ, rIP, rJJ, rJI, rJP, rPP, rPI, rPJ, g1, g2, g3, g4, g5, g6, g7, g8, Nat.reduceEqDiff, Nat.reduceAdd, false_and, and_false, true_and, and_true, reduceIte, nZ0, nZ1]
      refine ⟨by (first | omega | with_reducible assumption | (unfold rng; omega) | (unfold rng; (repeat' split) <;> omega) | grind), ?_⟩
      refine ⟨by (first | omega | with_reducible assumption | (unfold rng; omega) | (unfold rng; (repeat' split) <;> omega) | grind), ?_⟩
      have q16 := rσ.1 43 (v1.toNat); simp only [rgT] at q16
      have q17 := rσ.1 22 ((((gJ σ (jx ja 8) (gI σ (ra 38) v1.toNat).toNat)).toInt32.toInt).toNat); simp only [rgT] at q17
      split
      · rename_i hc60
        skip
        unfold w_X16_sourceTurn_272
        try simp only [forall_eq, rII, rIJ, rIP, rJJ, rJI, rJP, rPP, rPI, rPJ, g1, g2, g3, g4, g5, g6, g7, g8, Nat.reduceEqDiff, Nat.reduceAdd, false_and, and_false, true_and, and_true, reduceIte, nZ0, nZ1]
        refine ⟨by (first | omega | with_reducible assumption | (unfold rng; omega) | (unfold rng; (repeat' split) <;> omega) | grind), ?_⟩
        have q18 := rσ.1 25 ((((gJ σ (jx ja 8) (gI σ (ra 38) v1.toNat).toNat)).toInt32.toInt).toNat); simp only [rgT] at q18
        split
        · rename_i hc278
          skip
          unfold w_X16_sourceTurn_314
          try simp only [forall_eq, rII, rIJ, rIP, rJJ, rJI, rJP, rPP, rPI, rPJ, g1, g2, g3, g4, g5, g6, g7, g8, Nat.reduceEqDiff, Nat.reduceAdd, false_and, and_false, true_and, and_true, reduceIte, nZ0, nZ1]
          refine hQ _ _ ?_ ?_ ?_
          · exact rσ
          · exact fσ
          · first | exact ⟨t9, r9, e9, m9⟩ | exact ⟨ThE.fr (jx := jx) (K := [41, 42, 43]) (S := [113]) t9 (by repeat (first | exact Fr.rf | assumption | refine Fr.aJ g ?_ (by decide) | refine Fr.aI g ?_ (by decide) | refine Fr.sI g ?_ (by decide) | refine Fr.sJ g ?_ (by decide))) (by decide) (by decide), RecE.fr (K := [41, 42, 43]) (S := [113]) r9 (by repeat (first | exact Fr.rf | assumption | refine Fr.aJ g ?_ (by decide) | refine Fr.aI g ?_ (by decide) | refine Fr.sI g ?_ (by decide) | refine Fr.sJ g ?_ (by decide))) (by decide) (by decide), HeE.fr (jx := jx) (K := [41, 42, 43]) (S := [113]) e9 (by repeat (first | exact Fr.rf | assumption | refine Fr.aJ g ?_ (by decide) | refine Fr.aI g ?_ (by decide) | refine Fr.sI g ?_ (by decide) | refine Fr.sJ g ?_ (by decide))) (by decide) (by decide), MkI.fr (rm := rm) (K := [41, 42, 43]) (S := [113]) m9 (by repeat (first | exact Fr.rf | assumption | refine Fr.aJ g ?_ (by decide) | refine Fr.aI g ?_ (by decide) | refine Fr.sI g ?_ (by decide) | refine Fr.sJ g ?_ (by decide))) (by decide)⟩
        · rename_i hc278
          skip
          unfold w_X16_sourceTurn_281
          try simp only [forall_eq, rII, rIJ, rIP, rJJ, rJI, rJP, rPP, rPI, rPJ, g1, g2, g3, g4, g5, g6, g7, g8, Nat.reduceEqDiff, Nat.reduceAdd, false_and, and_false, true_and, and_true, reduceIte, nZ0, nZ1]
          refine ⟨by (first | omega | with_reducible assumption | (unfold rng; omega) | (unfold rng; (repeat' split) <;> omega) | grind), ?_⟩
          split
          · rename_i hc291
            skip
            unfold w_X16_sourceTurn_314
            try simp only [forall_eq, rII, rIJ, rIP, rJJ, rJI, rJP, rPP, rPI, rPJ, g1, g2, g3, g4, g5, g6, g7, g8, Nat.reduceEqDiff, Nat.reduceAdd, false_and, and_false, true_and, and_true, reduceIte, nZ0, nZ1]
            refine hQ _ _ ?_ ?_ ?_
            · exact rσ
            · exact fσ
            · first | exact ⟨t9, r9, e9, m9⟩ | exact ⟨ThE.fr (jx := jx) (K := [41, 42, 43]) (S := [113]) t9 (by repeat (first | exact Fr.rf | assumption | refine Fr.aJ g ?_ (by decide) | refine Fr.aI g ?_ (by decide) | refine Fr.sI g ?_ (by decide) | refine Fr.sJ g ?_ (by decide))) (by decide) (by decide), RecE.fr (K := [41, 42, 43]) (S := [113]) r9 (by repeat (first | exact Fr.rf | assumption | refine Fr.aJ g ?_ (by decide) | refine Fr.aI g ?_ (by decide) | refine Fr.sI g ?_ (by decide) | refine Fr.sJ g ?_ (by decide))) (by decide) (by decide), HeE.fr (jx := jx) (K := [41, 42, 43]) (S := [113]) e9 (by repeat (first | exact Fr.rf | assumption | refine Fr.aJ g ?_ (by decide) | refine Fr.aI g ?_ (by decide) | refine Fr.sI g ?_ (by decide) | refine Fr.sJ g ?_ (by decide))) (by decide) (by decide), MkI.fr (rm := rm) (K := [41, 42, 43]) (S := [113]) m9 (by repeat (first | exact Fr.rf | assumption | refine Fr.aJ g ?_ (by decide) | refine Fr.aI g ?_ (by decide) | refine Fr.sI g ?_ (by decide) | refine Fr.sJ g ?_ (by decide))) (by decide)⟩
          · rename_i hc291
            skip
            unfold w_X16_sourceTurn_294
            try simp only [forall_eq, rII, rIJ, rIP, rJJ, rJI, rJP, rPP, rPI, rPJ, g1, g2, g3, g4, g5, g6, g7, g8, Nat.reduceEqDiff, Nat.reduceAdd, false_and, and_false, true_and, and_true, reduceIte, nZ0, nZ1]
            refine ⟨by (first | omega | with_reducible assumption | (unfold rng; omega) | (unfold rng; (repeat' split) <;> omega) | grind), ?_⟩
            refine s_X16_spread g (by refine Rg.aJ g ?_ (by simp only [rlT]; first | with_reducible assumption | omega | exact Int64.toInt_le _ | (rw [Int64.toInt_ofInt_of_le (by omega) (by omega)]; omega) | grind); exact rσ) (by first | exact t9 | exact ThE.fr (jx := jx) (K := [40]) (S := []) t9 (by repeat (first | exact Fr.rf | assumption | refine Fr.aJ g ?_ (by decide) | refine Fr.aI g ?_ (by decide) | refine Fr.sI g ?_ (by decide) | refine Fr.sJ g ?_ (by decide))) (by decide) (by decide)) (by (try simp only [rII, rIJ, rIP, rJJ, rJI, rJP, rPP, rPI, rPJ, g1, g2, g3, g4, g5, g6, g7, g8, Nat.reduceEqDiff, Nat.reduceAdd, false_and, and_false, true_and, and_true, reduceIte, nZ0, nZ1]) <;> (first | omega | with_reducible assumption | (unfold rng; omega) | (unfold rng; (repeat' split) <;> omega) | grind)) (by (try simp only [rII, rIJ, rIP, rJJ, rJI, rJP, rPP, rPI, rPJ, g1, g2, g3, g4, g5, g6, g7, g8, Nat.reduceEqDiff, Nat.reduceAdd, false_and, and_false, true_and, and_true, reduceIte, nZ0, nZ1]) <;> (first | omega | with_reducible assumption | (unfold rng; omega) | (unfold rng; (repeat' split) <;> omega) | grind)) (by first | decide | omega | exact big) (fun σ58 _ rσ58 fc p19 => ?_) (fun σx E rx fx px => hX _ _ rx (Fr.tr (by refine Fr.aJ g ?_ (by decide); exact fσ) (Fr.mor (fx) (by decide) (by decide))) ⟨px.1, px.2, RecE.fr (RecE.fr (K := [40]) (S := []) r9 (by repeat (first | exact Fr.rf | assumption | refine Fr.aJ g ?_ (by decide) | refine Fr.aI g ?_ (by decide) | refine Fr.sI g ?_ (by decide) | refine Fr.sJ g ?_ (by decide))) (by decide) (by decide)) fx (by decide) (by decide), HeE.fr (HeE.fr (jx := jx) (K := [40]) (S := []) e9 (by repeat (first | exact Fr.rf | assumption | refine Fr.aJ g ?_ (by decide) | refine Fr.aI g ?_ (by decide) | refine Fr.sI g ?_ (by decide) | refine Fr.sJ g ?_ (by decide))) (by decide) (by decide)) fx (by decide) (by decide), MkI.fr (MkI.fr (rm := rm) (K := [40]) (S := []) m9 (by repeat (first | exact Fr.rf | assumption | refine Fr.aJ g ?_ (by decide) | refine Fr.aI g ?_ (by decide) | refine Fr.sI g ?_ (by decide) | refine Fr.sJ g ?_ (by decide))) (by decide)) fx (by decide)⟩)
            have fσ58 : Fr ra jx rm [26, 40, 41, 42, 43, 44, 46, 47, 48, 49, 60, 61, 62, 63, 64, 65, 81, 86, 87, 88, 89, 97, 98, 99, 100, 101, 102, 103, 104, 105, 106, 107, 108, 109] [27, 32, 66, 67, 92, 93, 96, 113] σ σ58 := Fr.tr (by refine Fr.aJ g ?_ (by decide); exact fσ) (Fr.mor (fc) (by decide) (by decide))
            have t8 := p19
            have r8 := RecE.fr (RecE.fr (K := [40]) (S := []) r9 (by repeat (first | exact Fr.rf | assumption | refine Fr.aJ g ?_ (by decide) | refine Fr.aI g ?_ (by decide) | refine Fr.sI g ?_ (by decide) | refine Fr.sJ g ?_ (by decide))) (by decide) (by decide)) fc (by decide) (by decide)
            have e8 := HeE.fr (HeE.fr (jx := jx) (K := [40]) (S := []) e9 (by repeat (first | exact Fr.rf | assumption | refine Fr.aJ g ?_ (by decide) | refine Fr.aI g ?_ (by decide) | refine Fr.sI g ?_ (by decide) | refine Fr.sJ g ?_ (by decide))) (by decide) (by decide)) fc (by decide) (by decide)
            have m8 := MkI.fr (MkI.fr (rm := rm) (K := [40]) (S := []) m9 (by repeat (first | exact Fr.rf | assumption | refine Fr.aJ g ?_ (by decide) | refine Fr.aI g ?_ (by decide) | refine Fr.sI g ?_ (by decide) | refine Fr.sJ g ?_ (by decide))) (by decide)) fc (by decide)
            have t9 := t8; have r9 := r8; have e9 := e8; have m9 := m8; clear t8 r8 e8 m8
            have eσ58_22 := fσ58.1 22 (by decide)
            have eσ58_23 := fσ58.1 23 (by decide)
            have eσ58_24 := fσ58.1 24 (by decide)
            have eσ58_25 := fσ58.1 25 (by decide)
            have eσ58_38 := fσ58.1 38 (by decide)
            have jσ58 := fσ58.2.2.1
            have pσ58 := fσ58.2.2.2
            have obσ58 := Fr.ob fσ58 hja (by decide)
            try simp only [forall_eq, rII, rIJ, rIP, rJJ, rJI, rJP, rPP, rPI, rPJ, g1, g2, g3, g4, g5, g6, g7, g8, Nat.reduceEqDiff, Nat.reduceAdd, false_and, and_false, true_and, and_true, reduceIte, nZ0, nZ1, eσ58_22.1, eσ58_22.2, eσ58_23.1, eσ58_23.2, eσ58_24.1, eσ58_24.2, eσ58_25.1, eσ58_25.2, eσ58_38.1, eσ58_38.2, fun a k => (jσ58 a k).1, fun a k => (jσ58 a k).2, pσ58, obσ58]
            refine hQ _ _ ?_ ?_ ?_
            · exact rσ58
            · exact fσ58
            · first | exact ⟨t9, r9, e9, m9⟩ | exact ⟨ThE.fr (jx := jx) (K := [41, 42, 43]) (S := [113]) t9 (by repeat (first | exact Fr.rf | assumption | refine Fr.aJ g ?_ (by decide) | refine Fr.aI g ?_ (by decide) | refine Fr.sI g ?_ (by decide) | refine Fr.sJ g ?_ (by decide))) (by decide) (by decide), RecE.fr (K := [41, 42, 43]) (S := [113]) r9 (by repeat (first | exact Fr.rf | assumption | refine Fr.aJ g ?_ (by decide) | refine Fr.aI g ?_ (by decide) | refine Fr.sI g ?_ (by decide) | refine Fr.sJ g ?_ (by decide))) (by decide) (by decide), HeE.fr (jx := jx) (K := [41, 42, 43]) (S := [113]) e9 (by repeat (first | exact Fr.rf | assumption | refine Fr.aJ g ?_ (by decide) | refine Fr.aI g ?_ (by decide) | refine Fr.sI g ?_ (by decide) | refine Fr.sJ g ?_ (by decide))) (by decide) (by decide), MkI.fr (rm := rm) (K := [41, 42, 43]) (S := [113]) m9 (by repeat (first | exact Fr.rf | assumption | refine Fr.aJ g ?_ (by decide) | refine Fr.aI g ?_ (by decide) | refine Fr.sI g ?_ (by decide) | refine Fr.sJ g ?_ (by decide))) (by decide)⟩
      · rename_i hc60
        skip
        unfold w_X16_sourceTurn_63
        try simp only [forall_eq, rII, rIJ, rIP, rJJ, rJI, rJP, rPP, rPI, rPJ, g1, g2, g3, g4, g5, g6, g7, g8, Nat.reduceEqDiff, Nat.reduceAdd, false_and, and_false, true_and, and_true, reduceIte, nZ0, nZ1]
        refine ⟨by (first | omega | with_reducible assumption | (unfold rng; omega) | (unfold rng; (repeat' split) <;> omega) | grind), ?_⟩
        refine ⟨by (first | omega | with_reducible assumption | (unfold rng; omega) | (unfold rng; (repeat' split) <;> omega) | grind), ?_⟩
        refine ⟨by (first | omega | with_reducible assumption | (unfold rng; omega) | (unfold rng; (repeat' split) <;> omega) | grind), ?_⟩
        refine ⟨by (first | omega | with_reducible assumption | (unfold rng; omega) | (unfold rng; (repeat' split) <;> omega) | grind), ?_⟩
        refine ⟨by (first | omega | with_reducible assumption | (unfold rng; omega) | (unfold rng; (repeat' split) <;> omega) | grind), ?_⟩
        refine ⟨by (first | omega | with_reducible assumption | (unfold rng; omega) | (unfold rng; (repeat' split) <;> omega) | grind), ?_⟩
        refine ⟨by (first | omega | with_reducible assumption | (unfold rng; omega) | (unfold rng; (repeat' split) <;> omega) | grind), ?_⟩
        refine ⟨by (first | omega | with_reducible assumption | (unfold rng; omega) | (unfold rng; (repeat' split) <;> omega) | grind), ?_⟩
        have q20 := rσ.1 41 (v1.toNat); simp only [rgT] at q20
        refine ⟨by (first | omega | with_reducible assumption | (unfold rng; omega) | (unfold rng; (repeat' split) <;> omega) | grind), ?_⟩
        refine ⟨by (first | omega | with_reducible assumption | (unfold rng; omega) | (unfold rng; (repeat' split) <;> omega) | grind), ?_⟩
        split
        · rename_i hc115
          skip
          unfold w_X16_sourceTurn_130
          try simp only [forall_eq, rII, rIJ, rIP, rJJ, rJI, rJP, rPP, rPI, rPJ, g1, g2, g3, g4, g5, g6, g7, g8, Nat.reduceEqDiff, Nat.reduceAdd, false_and, and_false, true_and, and_true, reduceIte, nZ0, nZ1]
          refine ⟨by (first | omega | with_reducible assumption | (unfold rng; omega) | (unfold rng; (repeat' split) <;> omega) | grind), ?_⟩
          refine ⟨by (first | omega | with_reducible assumption | (unfold rng; omega) | (unfold rng; (repeat' split) <;> omega) | grind), ?_⟩
          refine s_X16_setOf g (by refine Rg.aI g ?_ (by simp only [rgT]; first | with_reducible exact nZ_rng _ | with_reducible exact nB_rng _ | with_reducible exact wr_rng _ | with_reducible exact i32any _ | (first | omega | with_reducible assumption | (unfold rng; omega) | (unfold rng; (repeat' split) <;> omega) | grind)); refine Rg.aI g ?_ (by simp only [rgT]; first | with_reducible exact nZ_rng _ | with_reducible exact nB_rng _ | with_reducible exact wr_rng _ | with_reducible exact i32any _ | (first | omega | with_reducible assumption | (unfold rng; omega) | (unfold rng; (repeat' split) <;> omega) | grind)); refine Rg.sI g ?_ (by simp only [rgS]; first | with_reducible exact nZ_rng _ | with_reducible exact nB_rng _ | with_reducible exact wr_rng _ | with_reducible exact i32any _ | (first | omega | with_reducible assumption | (unfold rng; omega) | (unfold rng; (repeat' split) <;> omega) | grind)); exact rσ) (by (try simp only [rII, rIJ, rIP, rJJ, rJI, rJP, rPP, rPI, rPJ, g1, g2, g3, g4, g5, g6, g7, g8, Nat.reduceEqDiff, Nat.reduceAdd, false_and, and_false, true_and, and_true, reduceIte, nZ0, nZ1]) <;> (first | omega | with_reducible assumption | (unfold rng; omega) | (unfold rng; (repeat' split) <;> omega) | grind)) (fun σ62 r63 rσ62 fc p21 => ?_) (fun σx E rx fx px => hX _ _ rx (Fr.tr (by refine Fr.aI g ?_ (by decide); refine Fr.aI g ?_ (by decide); refine Fr.sI g ?_ (by decide); exact fσ) (Fr.mor (fx) (by decide) (by decide))) ⟨px, ThE.fr (ThE.fr (jx := jx) (K := [41, 43]) (S := [113]) t9 (by repeat (first | exact Fr.rf | assumption | refine Fr.aJ g ?_ (by decide) | refine Fr.aI g ?_ (by decide) | refine Fr.sI g ?_ (by decide) | refine Fr.sJ g ?_ (by decide))) (by decide) (by decide)) fx (by decide) (by decide), RecE.fr (RecE.fr (K := [41, 43]) (S := [113]) r9 (by repeat (first | exact Fr.rf | assumption | refine Fr.aJ g ?_ (by decide) | refine Fr.aI g ?_ (by decide) | refine Fr.sI g ?_ (by decide) | refine Fr.sJ g ?_ (by decide))) (by decide) (by decide)) fx (by decide) (by decide), HeE.fr (HeE.fr (jx := jx) (K := [41, 43]) (S := [113]) e9 (by repeat (first | exact Fr.rf | assumption | refine Fr.aJ g ?_ (by decide) | refine Fr.aI g ?_ (by decide) | refine Fr.sI g ?_ (by decide) | refine Fr.sJ g ?_ (by decide))) (by decide) (by decide)) fx (by decide) (by decide), MkI.fr (MkI.fr (rm := rm) (K := [41, 43]) (S := [113]) m9 (by repeat (first | exact Fr.rf | assumption | refine Fr.aJ g ?_ (by decide) | refine Fr.aI g ?_ (by decide) | refine Fr.sI g ?_ (by decide) | refine Fr.sJ g ?_ (by decide))) (by decide)) fx (by decide)⟩)
          have fσ62 : Fr ra jx rm [26, 40, 41, 42, 43, 44, 46, 47, 48, 49, 60, 61, 62, 63, 64, 65, 81, 86, 87, 88, 89, 97, 98, 99, 100, 101, 102, 103, 104, 105, 106, 107, 108, 109] [27, 32, 66, 67, 92, 93, 96, 113] σ σ62 := Fr.tr (by refine Fr.aI g ?_ (by decide); refine Fr.aI g ?_ (by decide); refine Fr.sI g ?_ (by decide); exact fσ) (Fr.mor (fc) (by decide) (by decide))
          have t8 := ThE.fr (ThE.fr (jx := jx) (K := [41, 43]) (S := [113]) t9 (by repeat (first | exact Fr.rf | assumption | refine Fr.aJ g ?_ (by decide) | refine Fr.aI g ?_ (by decide) | refine Fr.sI g ?_ (by decide) | refine Fr.sJ g ?_ (by decide))) (by decide) (by decide)) fc (by decide) (by decide)
          have r8 := RecE.fr (RecE.fr (K := [41, 43]) (S := [113]) r9 (by repeat (first | exact Fr.rf | assumption | refine Fr.aJ g ?_ (by decide) | refine Fr.aI g ?_ (by decide) | refine Fr.sI g ?_ (by decide) | refine Fr.sJ g ?_ (by decide))) (by decide) (by decide)) fc (by decide) (by decide)
          have e8 := HeE.fr (HeE.fr (jx := jx) (K := [41, 43]) (S := [113]) e9 (by repeat (first | exact Fr.rf | assumption | refine Fr.aJ g ?_ (by decide) | refine Fr.aI g ?_ (by decide) | refine Fr.sI g ?_ (by decide) | refine Fr.sJ g ?_ (by decide))) (by decide) (by decide)) fc (by decide) (by decide)
          have m8 := MkI.fr (MkI.fr (rm := rm) (K := [41, 43]) (S := [113]) m9 (by repeat (first | exact Fr.rf | assumption | refine Fr.aJ g ?_ (by decide) | refine Fr.aI g ?_ (by decide) | refine Fr.sI g ?_ (by decide) | refine Fr.sJ g ?_ (by decide))) (by decide)) fc (by decide)
          have t9 := t8; have r9 := r8; have e9 := e8; have m9 := m8; clear t8 r8 e8 m8
          have eσ62_22 := fσ62.1 22 (by decide)
          have eσ62_23 := fσ62.1 23 (by decide)
          have eσ62_24 := fσ62.1 24 (by decide)
          have eσ62_25 := fσ62.1 25 (by decide)
          have eσ62_38 := fσ62.1 38 (by decide)
          have jσ62 := fσ62.2.2.1
          have pσ62 := fσ62.2.2.2
          have obσ62 := Fr.ob fσ62 hja (by decide)
          try simp only [forall_eq, rII, rIJ, rIP, rJJ, rJI, rJP, rPP, rPI, rPJ, g1, g2, g3, g4, g5, g6, g7, g8, Nat.reduceEqDiff, Nat.reduceAdd, false_and, and_false, true_and, and_true, reduceIte, nZ0, nZ1, eσ62_22.1, eσ62_22.2, eσ62_23.1, eσ62_23.2, eσ62_24.1, eσ62_24.2, eσ62_25.1, eσ62_25.2, eσ62_38.1, eσ62_38.2, fun a k => (jσ62 a k).1, fun a k => (jσ62 a k).2, pσ62, obσ62]
          have L148 : ∀ (fu148 : Nat) (τ148 : Sg) (v6 : Int), Rg ra jx rm τ148 → Fr ra jx rm [26, 40, 41, 42, 43, 44, 46, 47, 48, 49, 60, 61, 62, 63, 64, 65, 81, 86, 87, 88, 89, 97, 98, 99, 100, 101, 102, 103, 104, 105, 106, 107, 108, 109] [27, 32, 66, 67, 92, 93, 96, 113] σ τ148 → ((ThE ra rm τ148 ∧ RecE ra jx rm ja τ148 ∧ HeE ra rm τ148 ∧ MkI ra jx ja τ148) ∧ 0 ≤ v6 ∧ v6 ≤ 8) → ((8 - v6).toNat) < fu148 → wl_X16_sourceTurn_148 ra jx rm Q X fu148 τ148 v1 (gI σ (ra 38) v1.toNat) (((gJ σ (jx ja 8) (gI σ (ra 38) v1.toNat).toNat)).toInt32.toInt) ((64 * ((gJ σ (jx ja 8) (gI σ (ra 38) v1.toNat).toNat)).toInt32.toInt) + (gI σ (ra 43) v1.toNat)) r63 v6 := by
            intro fu148
            induction fu148 with
            | zero => intro τ148 _ _ _ _ h9; omega
            | succ fu148 ih148 =>
              intro τ148 v6 rτ148 fτ148 hi148 hm148
              unfold wl_X16_sourceTurn_148
              have eτ148_22 := fτ148.1 22 (by decide)
              have eτ148_23 := fτ148.1 23 (by decide)
              have eτ148_24 := fτ148.1 24 (by decide)
              have eτ148_25 := fτ148.1 25 (by decide)
              have eτ148_38 := fτ148.1 38 (by decide)
              have jτ148 := fτ148.2.2.1
              have pτ148 := fτ148.2.2.2
              have obτ148 := Fr.ob fτ148 hja (by decide)
              unfold w_X16_sourceTurn_148
              try simp only [forall_eq, rII, rIJ, rIP, rJJ, rJI, rJP, rPP, rPI, rPJ, g1, g2, g3, g4, g5, g6, g7, g8, Nat.reduceEqDiff, Nat.reduceAdd, false_and, and_false, true_and, and_true, reduceIte, nZ0, nZ1, eτ148_22.1, eτ148_22.2, eτ148_23.1, eτ148_23.2, eτ148_24.1, eτ148_24.2, eτ148_25.1, eτ148_25.2, eτ148_38.1, eτ148_38.2, fun a k => (jτ148 a k).1, fun a k => (jτ148 a k).2, pτ148, obτ148]
              obtain ⟨⟨t9, r9, e9, m9⟩, k1, k2⟩ := hi148
              split
              · rename_i hc152
                skip
                unfold w_X16_sourceTurn_198
                try simp only [forall_eq, rII, rIJ, rIP, rJJ, rJI, rJP, rPP, rPI, rPJ, g1, g2, g3, g4, g5, g6, g7, g8, Nat.reduceEqDiff, Nat.reduceAdd, false_and, and_false, true_and, and_true, reduceIte, nZ0, nZ1, eτ148_22.1, eτ148_22.2, eτ148_23.1, eτ148_23.2, eτ148_24.1, eτ148_24.2, eτ148_25.1, eτ148_25.2, eτ148_38.1, eτ148_38.2, fun a k => (jτ148 a k).1, fun a k => (jτ148 a k).2, pτ148, obτ148]
                refine ⟨by (first | omega | with_reducible assumption | (unfold rng; omega) | (unfold rng; (repeat' split) <;> omega) | grind), ?_⟩
                refine s_X16_emit (b4 := (ra 81)) (n4 := 8) g rτ148 (by first | exact hj | (rw [fτ148.2.2.2]; exact hj)) hja rfl (Or.inl ⟨81, rfl, by decide⟩) (by first | exact t9 | exact ThE.fr (jx := jx) (K := [40]) (S := []) t9 (by repeat (first | exact Fr.rf | assumption | refine Fr.aJ g ?_ (by decide) | refine Fr.aI g ?_ (by decide) | refine Fr.sI g ?_ (by decide) | refine Fr.sJ g ?_ (by decide))) (by decide) (by decide)) (by (try simp only [rII, rIJ, rIP, rJJ, rJI, rJP, rPP, rPI, rPJ, g1, g2, g3, g4, g5, g6, g7, g8, Nat.reduceEqDiff, Nat.reduceAdd, false_and, and_false, true_and, and_true, reduceIte, nZ0, nZ1, eτ148_22.1, eτ148_22.2, eτ148_23.1, eτ148_23.2, eτ148_24.1, eτ148_24.2, eτ148_25.1, eτ148_25.2, eτ148_38.1, eτ148_38.2, fun a k => (jτ148 a k).1, fun a k => (jτ148 a k).2, pτ148, obτ148]) <;> (first | omega | with_reducible assumption | (unfold rng; omega) | (unfold rng; (repeat' split) <;> omega) | grind)) (by (try simp only [rII, rIJ, rIP, rJJ, rJI, rJP, rPP, rPI, rPJ, g1, g2, g3, g4, g5, g6, g7, g8, Nat.reduceEqDiff, Nat.reduceAdd, false_and, and_false, true_and, and_true, reduceIte, nZ0, nZ1, eτ148_22.1, eτ148_22.2, eτ148_23.1, eτ148_23.2, eτ148_24.1, eτ148_24.2, eτ148_25.1, eτ148_25.2, eτ148_38.1, eτ148_38.2, fun a k => (jτ148 a k).1, fun a k => (jτ148 a k).2, pτ148, obτ148]) <;> exact Int.le_trans (rσ.2.2.2 23 _) (by decide)) (by (try simp only [rII, rIJ, rIP, rJJ, rJI, rJP, rPP, rPI, rPJ, g1, g2, g3, g4, g5, g6, g7, g8, Nat.reduceEqDiff, Nat.reduceAdd, false_and, and_false, true_and, and_true, reduceIte, nZ0, nZ1, eτ148_22.1, eτ148_22.2, eτ148_23.1, eτ148_23.2, eτ148_24.1, eτ148_24.2, eτ148_25.1, eτ148_25.2, eτ148_38.1, eτ148_38.2, fun a k => (jτ148 a k).1, fun a k => (jτ148 a k).2, pτ148, obτ148]) <;> (first | omega | with_reducible assumption | (unfold rng; omega) | (unfold rng; (repeat' split) <;> omega) | grind)) (by (try simp only [rII, rIJ, rIP, rJJ, rJI, rJP, rPP, rPI, rPJ, g1, g2, g3, g4, g5, g6, g7, g8, Nat.reduceEqDiff, Nat.reduceAdd, false_and, and_false, true_and, and_true, reduceIte, nZ0, nZ1, eτ148_22.1, eτ148_22.2, eτ148_23.1, eτ148_23.2, eτ148_24.1, eτ148_24.2, eτ148_25.1, eτ148_25.2, eτ148_38.1, eτ148_38.2, fun a k => (jτ148 a k).1, fun a k => (jτ148 a k).2, pτ148, obτ148]) <;> (first | omega | with_reducible assumption | (unfold rng; omega) | (unfold rng; (repeat' split) <;> omega) | grind)) (by (try simp only [rII, rIJ, rIP, rJJ, rJI, rJP, rPP, rPI, rPJ, g1, g2, g3, g4, g5, g6, g7, g8, Nat.reduceEqDiff, Nat.reduceAdd, false_and, and_false, true_and, and_true, reduceIte, nZ0, nZ1, eτ148_22.1, eτ148_22.2, eτ148_23.1, eτ148_23.2, eτ148_24.1, eτ148_24.2, eτ148_25.1, eτ148_25.2, eτ148_38.1, eτ148_38.2, fun a k => (jτ148 a k).1, fun a k => (jτ148 a k).2, pτ148, obτ148]) <;> (first | omega | with_reducible assumption | (unfold rng; omega) | (unfold rng; (repeat' split) <;> omega) | grind)) (by (try simp only [rII, rIJ, rIP, rJJ, rJI, rJP, rPP, rPI, rPJ, g1, g2, g3, g4, g5, g6, g7, g8, Nat.reduceEqDiff, Nat.reduceAdd, false_and, and_false, true_and, and_true, reduceIte, nZ0, nZ1, eτ148_22.1, eτ148_22.2, eτ148_23.1, eτ148_23.2, eτ148_24.1, eτ148_24.2, eτ148_25.1, eτ148_25.2, eτ148_38.1, eτ148_38.2, fun a k => (jτ148 a k).1, fun a k => (jτ148 a k).2, pτ148, obτ148]) <;> first | exact hp | (rw [(fτ148.2.1 33 (by decide)).1]; exact hp)) (fun σ64 _ rσ64 fc p22 => ?_) (fun σx E rx fx px => hX _ _ rx (Fr.tr fτ148 (Fr.mor (fx) (by decide) (by decide))) ⟨px.1, px.2, RecE.fr r9 fx (by decide) (by decide), HeE.fr e9 fx (by decide) (by decide), MkI.fr m9 fx (by decide)⟩)
                have fσ64 : Fr ra jx rm [26, 40, 41, 42, 43, 44, 46, 47, 48, 49, 60, 61, 62, 63, 64, 65, 81, 86, 87, 88, 89, 97, 98, 99, 100, 101, 102, 103, 104, 105, 106, 107, 108, 109] [27, 32, 66, 67, 92, 93, 96, 113] σ σ64 := Fr.tr fτ148 (Fr.mor (fc) (by decide) (by decide))
                have t8 := p22
                have r8 := RecE.fr r9 fc (by decide) (by decide)
                have e8 := HeE.fr e9 fc (by decide) (by decide)
                have m8 := MkI.fr m9 fc (by decide)
                have t9 := t8; have r9 := r8; have e9 := e8; have m9 := m8; clear t8 r8 e8 m8
                have eσ64_22 := fσ64.1 22 (by decide)
                have eσ64_23 := fσ64.1 23 (by decide)
                have eσ64_24 := fσ64.1 24 (by decide)
                have eσ64_25 := fσ64.1 25 (by decide)
                have eσ64_38 := fσ64.1 38 (by decide)
                have jσ64 := fσ64.2.2.1
                have pσ64 := fσ64.2.2.2
                have obσ64 := Fr.ob fσ64 hja (by decide)
                try simp only [forall_eq, rII, rIJ, rIP, rJJ, rJI, rJP, rPP, rPI, rPJ, g1, g2, g3, g4, g5, g6, g7, g8, Nat.reduceEqDiff, Nat.reduceAdd, false_and, and_false, true_and, and_true, reduceIte, nZ0, nZ1, eσ64_22.1, eσ64_22.2, eσ64_23.1, eσ64_23.2, eσ64_24.1, eσ64_24.2, eσ64_25.1, eσ64_25.2, eσ64_38.1, eσ64_38.2, fun a k => (jσ64 a k).1, fun a k => (jσ64 a k).2, pσ64, obσ64]
                refine ⟨by (first | omega | with_reducible assumption | (unfold rng; omega) | (unfold rng; (repeat' split) <;> omega) | grind), ?_⟩
                have q23 := rσ64.1 43 (v1.toNat); simp only [rgT] at q23
                refine s2_X16_readSoFar g rσ64 (by (try simp only [rII, rIJ, rIP, rJJ, rJI, rJP, rPP, rPI, rPJ, g1, g2, g3, g4, g5, g6, g7, g8, Nat.reduceEqDiff, Nat.reduceAdd, false_and, and_false, true_and, and_true, reduceIte, nZ0, nZ1, eσ64_22.1, eσ64_22.2, eσ64_23.1, eσ64_23.2, eσ64_24.1, eσ64_24.2, eσ64_25.1, eσ64_25.2, eσ64_38.1, eσ64_38.2, fun a k => (jσ64 a k).1, fun a k => (jσ64 a k).2, pσ64, obσ64]) <;> (first | omega | with_reducible assumption | (unfold rng; omega) | (unfold rng; (repeat' split) <;> omega) | grind)) (by (try simp only [rII, rIJ, rIP, rJJ, rJI, rJP, rPP, rPI, rPJ, g1, g2, g3, g4, g5, g6, g7, g8, Nat.reduceEqDiff, Nat.reduceAdd, false_and, and_false, true_and, and_true, reduceIte, nZ0, nZ1, eσ64_22.1, eσ64_22.2, eσ64_23.1, eσ64_23.2, eσ64_24.1, eσ64_24.2, eσ64_25.1, eσ64_25.2, eσ64_38.1, eσ64_38.2, fun a k => (jσ64 a k).1, fun a k => (jσ64 a k).2, pσ64, obσ64]) <;> (first | omega | with_reducible assumption | (unfold rng; omega) | (unfold rng; (repeat' split) <;> omega) | grind)) (fun r66 p24 => ?_)
                try simp only [forall_eq, rII, rIJ, rIP, rJJ, rJI, rJP, rPP, rPI, rPJ, g1, g2, g3, g4, g5, g6, g7, g8, Nat.reduceEqDiff, Nat.reduceAdd, false_and, and_false, true_and, and_true, reduceIte, nZ0, nZ1, eσ64_22.1, eσ64_22.2, eσ64_23.1, eσ64_23.2, eσ64_24.1, eσ64_24.2, eσ64_25.1, eσ64_25.2, eσ64_38.1, eσ64_38.2, fun a k => (jσ64 a k).1, fun a k => (jσ64 a k).2, pσ64, obσ64]
                have w9 := i64_sub3 (b := gJ σ (jx ja 9) (gI σ (ra 38) v1.toNat).toNat) p24.1 p24.2 s3 s4
                have w8 := p24
                refine ⟨ja, by exact hj, hja, ?_⟩
                refine ⟨by (first | omega | with_reducible assumption | (unfold rng; omega) | (unfold rng; (repeat' split) <;> omega) | grind), ?_⟩
                refine ⟨by (first | omega | with_reducible assumption | (unfold rng; omega) | (unfold rng; (repeat' split) <;> omega) | grind), ?_⟩
                split
                · rename_i hc251
                  skip
                  unfold w_X16_sourceTurn_270
                  try simp only [forall_eq, rII, rIJ, rIP, rJJ, rJI, rJP, rPP, rPI, rPJ, g1, g2, g3, g4, g5, g6, g7, g8, Nat.reduceEqDiff, Nat.reduceAdd, false_and, and_false, true_and, and_true, reduceIte, nZ0, nZ1, eσ64_22.1, eσ64_22.2, eσ64_23.1, eσ64_23.2, eσ64_24.1, eσ64_24.2, eσ64_25.1, eσ64_25.2, eσ64_38.1, eσ64_38.2, fun a k => (jσ64 a k).1, fun a k => (jσ64 a k).2, pσ64, obσ64]
                  refine hQ _ _ ?_ ?_ ?_
                  · exact rσ64
                  · exact fσ64
                  · first | exact ⟨t9, r9, e9, m9⟩ | exact ⟨ThE.fr (jx := jx) (K := [41, 42, 43]) (S := [113]) t9 (by repeat (first | exact Fr.rf | assumption | refine Fr.aJ g ?_ (by decide) | refine Fr.aI g ?_ (by decide) | refine Fr.sI g ?_ (by decide) | refine Fr.sJ g ?_ (by decide))) (by decide) (by decide), RecE.fr (K := [41, 42, 43]) (S := [113]) r9 (by repeat (first | exact Fr.rf | assumption | refine Fr.aJ g ?_ (by decide) | refine Fr.aI g ?_ (by decide) | refine Fr.sI g ?_ (by decide) | refine Fr.sJ g ?_ (by decide))) (by decide) (by decide), HeE.fr (jx := jx) (K := [41, 42, 43]) (S := [113]) e9 (by repeat (first | exact Fr.rf | assumption | refine Fr.aJ g ?_ (by decide) | refine Fr.aI g ?_ (by decide) | refine Fr.sI g ?_ (by decide) | refine Fr.sJ g ?_ (by decide))) (by decide) (by decide), MkI.fr (rm := rm) (K := [41, 42, 43]) (S := [113]) m9 (by repeat (first | exact Fr.rf | assumption | refine Fr.aJ g ?_ (by decide) | refine Fr.aI g ?_ (by decide) | refine Fr.sI g ?_ (by decide) | refine Fr.sJ g ?_ (by decide))) (by decide)⟩
                · rename_i hc251
                  skip
                  unfold w_X16_sourceTurn_254
                  try simp only [forall_eq, rII, rIJ, rIP, rJJ, rJI, rJP, rPP, rPI, rPJ, g1, g2, g3, g4, g5, g6, g7, g8, Nat.reduceEqDiff, Nat.reduceAdd, false_and, and_false, true_and, and_true, reduceIte, nZ0, nZ1, eσ64_22.1, eσ64_22.2, eσ64_23.1, eσ64_23.2, eσ64_24.1, eσ64_24.2, eσ64_25.1, eσ64_25.2, eσ64_38.1, eσ64_38.2, fun a k => (jσ64 a k).1, fun a k => (jσ64 a k).2, pσ64, obσ64]
                  refine ⟨by (first | omega | with_reducible assumption | (unfold rng; omega) | (unfold rng; (repeat' split) <;> omega) | grind), ?_⟩
                  refine s_X16_spread g (by refine Rg.aJ g ?_ (by simp only [rlT]; first | with_reducible assumption | omega | exact Int64.toInt_le _ | (rw [Int64.toInt_ofInt_of_le (by omega) (by omega)]; omega) | grind); exact rσ64) (by first | exact t9 | exact ThE.fr (jx := jx) (K := [40]) (S := []) t9 (by repeat (first | exact Fr.rf | assumption | refine Fr.aJ g ?_ (by decide) | refine Fr.aI g ?_ (by decide) | refine Fr.sI g ?_ (by decide) | refine Fr.sJ g ?_ (by decide))) (by decide) (by decide)) (by (try simp only [rII, rIJ, rIP, rJJ, rJI, rJP, rPP, rPI, rPJ, g1, g2, g3, g4, g5, g6, g7, g8, Nat.reduceEqDiff, Nat.reduceAdd, false_and, and_false, true_and, and_true, reduceIte, nZ0, nZ1, eσ64_22.1, eσ64_22.2, eσ64_23.1, eσ64_23.2, eσ64_24.1, eσ64_24.2, eσ64_25.1, eσ64_25.2, eσ64_38.1, eσ64_38.2, fun a k => (jσ64 a k).1, fun a k => (jσ64 a k).2, pσ64, obσ64]) <;> (first | omega | with_reducible assumption | (unfold rng; omega) | (unfold rng; (repeat' split) <;> omega) | grind)) (by (try simp only [rII, rIJ, rIP, rJJ, rJI, rJP, rPP, rPI, rPJ, g1, g2, g3, g4, g5, g6, g7, g8, Nat.reduceEqDiff, Nat.reduceAdd, false_and, and_false, true_and, and_true, reduceIte, nZ0, nZ1, eσ64_22.1, eσ64_22.2, eσ64_23.1, eσ64_23.2, eσ64_24.1, eσ64_24.2, eσ64_25.1, eσ64_25.2, eσ64_38.1, eσ64_38.2, fun a k => (jσ64 a k).1, fun a k => (jσ64 a k).2, pσ64, obσ64]) <;> (first | omega | with_reducible assumption | (unfold rng; omega) | (unfold rng; (repeat' split) <;> omega) | grind)) (by first | decide | omega | exact big) (fun σ69 _ rσ69 fc p25 => ?_) (fun σx E rx fx px => hX _ _ rx (Fr.tr (by refine Fr.aJ g ?_ (by decide); exact fσ64) (Fr.mor (fx) (by decide) (by decide))) ⟨px.1, px.2, RecE.fr (RecE.fr (K := [40]) (S := []) r9 (by repeat (first | exact Fr.rf | assumption | refine Fr.aJ g ?_ (by decide) | refine Fr.aI g ?_ (by decide) | refine Fr.sI g ?_ (by decide) | refine Fr.sJ g ?_ (by decide))) (by decide) (by decide)) fx (by decide) (by decide), HeE.fr (HeE.fr (jx := jx) (K := [40]) (S := []) e9 (by repeat (first | exact Fr.rf | assumption | refine Fr.aJ g ?_ (by decide) | refine Fr.aI g ?_ (by decide) | refine Fr.sI g ?_ (by decide) | refine Fr.sJ g ?_ (by decide))) (by decide) (by decide)) fx (by decide) (by decide), MkI.fr (MkI.fr (rm := rm) (K := [40]) (S := []) m9 (by repeat (first | exact Fr.rf | assumption | refine Fr.aJ g ?_ (by decide) | refine Fr.aI g ?_ (by decide) | refine Fr.sI g ?_ (by decide) | refine Fr.sJ g ?_ (by decide))) (by decide)) fx (by decide)⟩)
                  have fσ69 : Fr ra jx rm [26, 40, 41, 42, 43, 44, 46, 47, 48, 49, 60, 61, 62, 63, 64, 65, 81, 86, 87, 88, 89, 97, 98, 99, 100, 101, 102, 103, 104, 105, 106, 107, 108, 109] [27, 32, 66, 67, 92, 93, 96, 113] σ σ69 := Fr.tr (by refine Fr.aJ g ?_ (by decide); exact fσ64) (Fr.mor (fc) (by decide) (by decide))
                  have t8 := p25
                  have r8 := RecE.fr (RecE.fr (K := [40]) (S := []) r9 (by repeat (first | exact Fr.rf | assumption | refine Fr.aJ g ?_ (by decide) | refine Fr.aI g ?_ (by decide) | refine Fr.sI g ?_ (by decide) | refine Fr.sJ g ?_ (by decide))) (by decide) (by decide)) fc (by decide) (by decide)
                  have e8 := HeE.fr (HeE.fr (jx := jx) (K := [40]) (S := []) e9 (by repeat (first | exact Fr.rf | assumption | refine Fr.aJ g ?_ (by decide) | refine Fr.aI g ?_ (by decide) | refine Fr.sI g ?_ (by decide) | refine Fr.sJ g ?_ (by decide))) (by decide) (by decide)) fc (by decide) (by decide)
                  have m8 := MkI.fr (MkI.fr (rm := rm) (K := [40]) (S := []) m9 (by repeat (first | exact Fr.rf | assumption | refine Fr.aJ g ?_ (by decide) | refine Fr.aI g ?_ (by decide) | refine Fr.sI g ?_ (by decide) | refine Fr.sJ g ?_ (by decide))) (by decide)) fc (by decide)
                  have t9 := t8; have r9 := r8; have e9 := e8; have m9 := m8; clear t8 r8 e8 m8
                  have eσ69_22 := fσ69.1 22 (by decide)
                  have eσ69_23 := fσ69.1 23 (by decide)
                  have eσ69_24 := fσ69.1 24 (by decide)
                  have eσ69_25 := fσ69.1 25 (by decide)
                  have eσ69_38 := fσ69.1 38 (by decide)
                  have jσ69 := fσ69.2.2.1
                  have pσ69 := fσ69.2.2.2
                  have obσ69 := Fr.ob fσ69 hja (by decide)
                  try simp only [forall_eq, rII, rIJ, rIP, rJJ, rJI, rJP, rPP, rPI, rPJ, g1, g2, g3, g4, g5, g6, g7, g8, Nat.reduceEqDiff, Nat.reduceAdd, false_and, and_false, true_and, and_true, reduceIte, nZ0, nZ1, eσ69_22.1, eσ69_22.2, eσ69_23.1, eσ69_23.2, eσ69_24.1, eσ69_24.2, eσ69_25.1, eσ69_25.2, eσ69_38.1, eσ69_38.2, fun a k => (jσ69 a k).1, fun a k => (jσ69 a k).2, pσ69, obσ69]
                  unfold w_X16_sourceTurn_270
                  try simp only [forall_eq, rII, rIJ, rIP, rJJ, rJI, rJP, rPP, rPI, rPJ, g1, g2, g3, g4, g5, g6, g7, g8, Nat.reduceEqDiff, Nat.reduceAdd, false_and, and_false, true_and, and_true, reduceIte, nZ0, nZ1, eσ69_22.1, eσ69_22.2, eσ69_23.1, eσ69_23.2, eσ69_24.1, eσ69_24.2, eσ69_25.1, eσ69_25.2, eσ69_38.1, eσ69_38.2, fun a k => (jσ69 a k).1, fun a k => (jσ69 a k).2, pσ69, obσ69]
                  refine hQ _ _ ?_ ?_ ?_
                  · exact rσ69
                  · exact fσ69
                  · first | exact ⟨t9, r9, e9, m9⟩ | exact ⟨ThE.fr (jx := jx) (K := [41, 42, 43]) (S := [113]) t9 (by repeat (first | exact Fr.rf | assumption | refine Fr.aJ g ?_ (by decide) | refine Fr.aI g ?_ (by decide) | refine Fr.sI g ?_ (by decide) | refine Fr.sJ g ?_ (by decide))) (by decide) (by decide), RecE.fr (K := [41, 42, 43]) (S := [113]) r9 (by repeat (first | exact Fr.rf | assumption | refine Fr.aJ g ?_ (by decide) | refine Fr.aI g ?_ (by decide) | refine Fr.sI g ?_ (by decide) | refine Fr.sJ g ?_ (by decide))) (by decide) (by decide), HeE.fr (jx := jx) (K := [41, 42, 43]) (S := [113]) e9 (by repeat (first | exact Fr.rf | assumption | refine Fr.aJ g ?_ (by decide) | refine Fr.aI g ?_ (by decide) | refine Fr.sI g ?_ (by decide) | refine Fr.sJ g ?_ (by decide))) (by decide) (by decide), MkI.fr (rm := rm) (K := [41, 42, 43]) (S := [113]) m9 (by repeat (first | exact Fr.rf | assumption | refine Fr.aJ g ?_ (by decide) | refine Fr.aI g ?_ (by decide) | refine Fr.sI g ?_ (by decide) | refine Fr.sJ g ?_ (by decide))) (by decide)⟩
              · rename_i hc152
                skip
                unfold w_X16_sourceTurn_155
                try simp only [forall_eq, rII, rIJ, rIP, rJJ, rJI, rJP, rPP, rPI, rPJ, g1, g2, g3, g4, g5, g6, g7, g8, Nat.reduceEqDiff, Nat.reduceAdd, false_and, and_false, true_and, and_true, reduceIte, nZ0, nZ1, eτ148_22.1, eτ148_22.2, eτ148_23.1, eτ148_23.2, eτ148_24.1, eτ148_24.2, eτ148_25.1, eτ148_25.2, eτ148_38.1, eτ148_38.2, fun a k => (jτ148 a k).1, fun a k => (jτ148 a k).2, pτ148, obτ148]
                refine ⟨ja, by exact hj, hja, ?_⟩
                refine ⟨by (first | omega | with_reducible assumption | (unfold rng; omega) | (unfold rng; (repeat' split) <;> omega) | grind), ?_⟩
                have q26 := rσ.2.2.1 ja 6 ((gI σ (ra 38) v1.toNat).toNat); simp only [rgJ] at q26
                split
                · rename_i hc172
                  skip
                  unfold w_X16_sourceTurn_190
                  try simp only [forall_eq, rII, rIJ, rIP, rJJ, rJI, rJP, rPP, rPI, rPJ, g1, g2, g3, g4, g5, g6, g7, g8, Nat.reduceEqDiff, Nat.reduceAdd, false_and, and_false, true_and, and_true, reduceIte, nZ0, nZ1, eτ148_22.1, eτ148_22.2, eτ148_23.1, eτ148_23.2, eτ148_24.1, eτ148_24.2, eτ148_25.1, eτ148_25.2, eτ148_38.1, eτ148_38.2, fun a k => (jτ148 a k).1, fun a k => (jτ148 a k).2, pτ148, obτ148]
                  unfold w_X16_sourceTurn_191
                  try simp only [forall_eq, rII, rIJ, rIP, rJJ, rJI, rJP, rPP, rPI, rPJ, g1, g2, g3, g4, g5, g6, g7, g8, Nat.reduceEqDiff, Nat.reduceAdd, false_and, and_false, true_and, and_true, reduceIte, nZ0, nZ1, eτ148_22.1, eτ148_22.2, eτ148_23.1, eτ148_23.2, eτ148_24.1, eτ148_24.2, eτ148_25.1, eτ148_25.2, eτ148_38.1, eτ148_38.2, fun a k => (jτ148 a k).1, fun a k => (jτ148 a k).2, pτ148, obτ148]
                  refine ⟨by (first | omega | with_reducible assumption | (unfold rng; omega) | (unfold rng; (repeat' split) <;> omega) | grind), ?_⟩
                  refine ⟨by (first | omega | with_reducible assumption | (unfold rng; omega) | (unfold rng; (repeat' split) <;> omega) | grind), ?_⟩
                  refine ih148 _ _ ?_ ?_ ?_ ?_
                  · refine Rg.aJ g ?_ (by simp only [rlT]; first | with_reducible assumption | omega | exact Int64.toInt_le _ | (rw [Int64.toInt_ofInt_of_le (by omega) (by omega)]; omega) | grind); exact rτ148
                  · refine Fr.aJ g ?_ (by decide); exact fτ148
                  · first | exact ⟨⟨t9, r9, e9, m9⟩, by omega, by omega⟩ | exact ⟨⟨ThE.fr (jx := jx) (K := [81]) (S := []) t9 (by repeat (first | exact Fr.rf | assumption | refine Fr.aJ g ?_ (by decide) | refine Fr.aI g ?_ (by decide) | refine Fr.sI g ?_ (by decide) | refine Fr.sJ g ?_ (by decide))) (by decide) (by decide), RecE.fr (K := [81]) (S := []) r9 (by repeat (first | exact Fr.rf | assumption | refine Fr.aJ g ?_ (by decide) | refine Fr.aI g ?_ (by decide) | refine Fr.sI g ?_ (by decide) | refine Fr.sJ g ?_ (by decide))) (by decide) (by decide), HeE.fr (jx := jx) (K := [81]) (S := []) e9 (by repeat (first | exact Fr.rf | assumption | refine Fr.aJ g ?_ (by decide) | refine Fr.aI g ?_ (by decide) | refine Fr.sI g ?_ (by decide) | refine Fr.sJ g ?_ (by decide))) (by decide) (by decide), MkI.fr (rm := rm) (K := [81]) (S := []) m9 (by repeat (first | exact Fr.rf | assumption | refine Fr.aJ g ?_ (by decide) | refine Fr.aI g ?_ (by decide) | refine Fr.sI g ?_ (by decide) | refine Fr.sJ g ?_ (by decide))) (by decide)⟩, by omega, by omega⟩
                  · (try simp only [rII, rIJ, rIP, rJJ, rJI, rJP, rPP, rPI, rPJ, g1, g2, g3, g4, g5, g6, g7, g8, Nat.reduceEqDiff, Nat.reduceAdd, false_and, and_false, true_and, and_true, reduceIte, nZ0, nZ1, eτ148_22.1, eτ148_22.2, eτ148_23.1, eτ148_23.2, eτ148_24.1, eτ148_24.2, eτ148_25.1, eτ148_25.2, eτ148_38.1, eτ148_38.2, fun a k => (jτ148 a k).1, fun a k => (jτ148 a k).2, pτ148, obτ148]) <;> (first | omega | with_reducible assumption | (unfold rng; omega) | (unfold rng; (repeat' split) <;> omega) | grind)
                · rename_i hc172
                  skip
                  unfold w_X16_sourceTurn_175
                  try simp only [forall_eq, rII, rIJ, rIP, rJJ, rJI, rJP, rPP, rPI, rPJ, g1, g2, g3, g4, g5, g6, g7, g8, Nat.reduceEqDiff, Nat.reduceAdd, false_and, and_false, true_and, and_true, reduceIte, nZ0, nZ1, eτ148_22.1, eτ148_22.2, eτ148_23.1, eτ148_23.2, eτ148_24.1, eτ148_24.2, eτ148_25.1, eτ148_25.2, eτ148_38.1, eτ148_38.2, fun a k => (jτ148 a k).1, fun a k => (jτ148 a k).2, pτ148, obτ148]
                  refine ⟨by (first | omega | with_reducible assumption | (unfold rng; omega) | (unfold rng; (repeat' split) <;> omega) | grind), ?_⟩
                  refine ⟨by (first | omega | with_reducible assumption | (unfold rng; omega) | (unfold rng; (repeat' split) <;> omega) | grind), ?_⟩
                  refine ⟨by (first | omega | with_reducible assumption | (unfold rng; omega) | (unfold rng; (repeat' split) <;> omega) | grind), ?_⟩
                  unfold w_X16_sourceTurn_191
                  try simp only [forall_eq, rII, rIJ, rIP, rJJ, rJI, rJP, rPP, rPI, rPJ, g1, g2, g3, g4, g5, g6, g7, g8, Nat.reduceEqDiff, Nat.reduceAdd, false_and, and_false, true_and, and_true, reduceIte, nZ0, nZ1, eτ148_22.1, eτ148_22.2, eτ148_23.1, eτ148_23.2, eτ148_24.1, eτ148_24.2, eτ148_25.1, eτ148_25.2, eτ148_38.1, eτ148_38.2, fun a k => (jτ148 a k).1, fun a k => (jτ148 a k).2, pτ148, obτ148]
                  refine ⟨by (first | omega | with_reducible assumption | (unfold rng; omega) | (unfold rng; (repeat' split) <;> omega) | grind), ?_⟩
                  refine ⟨by (first | omega | with_reducible assumption | (unfold rng; omega) | (unfold rng; (repeat' split) <;> omega) | grind), ?_⟩
                  refine ih148 _ _ ?_ ?_ ?_ ?_
                  · refine Rg.aJ g ?_ (by simp only [rlT]; first | with_reducible assumption | omega | exact Int64.toInt_le _ | (rw [Int64.toInt_ofInt_of_le (by omega) (by omega)]; omega) | grind); exact rτ148
                  · refine Fr.aJ g ?_ (by decide); exact fτ148
                  · first | exact ⟨⟨t9, r9, e9, m9⟩, by omega, by omega⟩ | exact ⟨⟨ThE.fr (jx := jx) (K := [81]) (S := []) t9 (by repeat (first | exact Fr.rf | assumption | refine Fr.aJ g ?_ (by decide) | refine Fr.aI g ?_ (by decide) | refine Fr.sI g ?_ (by decide) | refine Fr.sJ g ?_ (by decide))) (by decide) (by decide), RecE.fr (K := [81]) (S := []) r9 (by repeat (first | exact Fr.rf | assumption | refine Fr.aJ g ?_ (by decide) | refine Fr.aI g ?_ (by decide) | refine Fr.sI g ?_ (by decide) | refine Fr.sJ g ?_ (by decide))) (by decide) (by decide), HeE.fr (jx := jx) (K := [81]) (S := []) e9 (by repeat (first | exact Fr.rf | assumption | refine Fr.aJ g ?_ (by decide) | refine Fr.aI g ?_ (by decide) | refine Fr.sI g ?_ (by decide) | refine Fr.sJ g ?_ (by decide))) (by decide) (by decide), MkI.fr (rm := rm) (K := [81]) (S := []) m9 (by repeat (first | exact Fr.rf | assumption | refine Fr.aJ g ?_ (by decide) | refine Fr.aI g ?_ (by decide) | refine Fr.sI g ?_ (by decide) | refine Fr.sJ g ?_ (by decide))) (by decide)⟩, by omega, by omega⟩
                  · (try simp only [rII, rIJ, rIP, rJJ, rJI, rJP, rPP, rPI, rPJ, g1, g2, g3, g4, g5, g6, g7, g8, Nat.reduceEqDiff, Nat.reduceAdd, false_and, and_false, true_and, and_true, reduceIte, nZ0, nZ1, eτ148_22.1, eτ148_22.2, eτ148_23.1, eτ148_23.2, eτ148_24.1, eτ148_24.2, eτ148_25.1, eτ148_25.2, eτ148_38.1, eτ148_38.2, fun a k => (jτ148 a k).1, fun a k => (jτ148 a k).2, pτ148, obτ148]) <;> (first | omega | with_reducible assumption | (unfold rng; omega) | (unfold rng; (repeat' split) <;> omega) | grind)
          refine ⟨_, L148 _ _ _ ?_ ?_ ?_ (Nat.lt_succ_self _)⟩
          · exact rσ62
          · exact fσ62
          · first | exact ⟨⟨t9, r9, e9, m9⟩, by omega, by omega⟩ | exact ⟨⟨ThE.fr (jx := jx) (K := [81]) (S := []) t9 (by repeat (first | exact Fr.rf | assumption | refine Fr.aJ g ?_ (by decide) | refine Fr.aI g ?_ (by decide) | refine Fr.sI g ?_ (by decide) | refine Fr.sJ g ?_ (by decide))) (by decide) (by decide), RecE.fr (K := [81]) (S := []) r9 (by repeat (first | exact Fr.rf | assumption | refine Fr.aJ g ?_ (by decide) | refine Fr.aI g ?_ (by decide) | refine Fr.sI g ?_ (by decide) | refine Fr.sJ g ?_ (by decide))) (by decide) (by decide), HeE.fr (jx := jx) (K := [81]) (S := []) e9 (by repeat (first | exact Fr.rf | assumption | refine Fr.aJ g ?_ (by decide) | refine Fr.aI g ?_ (by decide) | refine Fr.sI g ?_ (by decide) | refine Fr.sJ g ?_ (by decide))) (by decide) (by decide), MkI.fr (rm := rm) (K := [81]) (S := []) m9 (by repeat (first | exact Fr.rf | assumption | refine Fr.aJ g ?_ (by decide) | refine Fr.aI g ?_ (by decide) | refine Fr.sI g ?_ (by decide) | refine Fr.sJ g ?_ (by decide))) (by decide)⟩, by omega, by omega⟩
        · rename_i hc115
          skip
          unfold w_X16_sourceTurn_118
          try simp only [forall_eq, rII, rIJ, rIP, rJJ, rJI, rJP, rPP, rPI, rPJ, g1, g2, g3, g4, g5, g6, g7, g8, Nat.reduceEqDiff, Nat.reduceAdd, false_and, and_false, true_and, and_true, reduceIte, nZ0, nZ1]
          refine ⟨by (first | omega | with_reducible assumption | (unfold rng; omega) | (unfold rng; (repeat' split) <;> omega) | grind), ?_⟩
          refine ⟨by (first | omega | with_reducible assumption | (unfold rng; omega) | (unfold rng; (repeat' split) <;> omega) | grind), ?_⟩
          have q27 := rσ.1 42 (v1.toNat); simp only [rgT] at q27
          refine hQ _ _ ?_ ?_ ?_
          · refine Rg.aI g ?_ (by simp only [rgT]; first | with_reducible exact nZ_rng _ | with_reducible exact nB_rng _ | with_reducible exact wr_rng _ | with_reducible exact i32any _ | (first | omega | with_reducible assumption | (unfold rng; omega) | (unfold rng; (repeat' split) <;> omega) | grind)); refine Rg.aI g ?_ (by simp only [rgT]; first | with_reducible exact nZ_rng _ | with_reducible exact nB_rng _ | with_reducible exact wr_rng _ | with_reducible exact i32any _ | (first | omega | with_reducible assumption | (unfold rng; omega) | (unfold rng; (repeat' split) <;> omega) | grind)); refine Rg.aI g ?_ (by simp only [rgT]; first | with_reducible exact nZ_rng _ | with_reducible exact nB_rng _ | with_reducible exact wr_rng _ | with_reducible exact i32any _ | (first | omega | with_reducible assumption | (unfold rng; omega) | (unfold rng; (repeat' split) <;> omega) | grind)); refine Rg.sI g ?_ (by simp only [rgS]; first | with_reducible exact nZ_rng _ | with_reducible exact nB_rng _ | with_reducible exact wr_rng _ | with_reducible exact i32any _ | (first | omega | with_reducible assumption | (unfold rng; omega) | (unfold rng; (repeat' split) <;> omega) | grind)); exact rσ
          · refine Fr.aI g ?_ (by decide); refine Fr.aI g ?_ (by decide); refine Fr.aI g ?_ (by decide); refine Fr.sI g ?_ (by decide); exact fσ
          · first | exact ⟨t9, r9, e9, m9⟩ | exact ⟨ThE.fr (jx := jx) (K := [41, 42, 43]) (S := [113]) t9 (by repeat (first | exact Fr.rf | assumption | refine Fr.aJ g ?_ (by decide) | refine Fr.aI g ?_ (by decide) | refine Fr.sI g ?_ (by decide) | refine Fr.sJ g ?_ (by decide))) (by decide) (by decide), RecE.fr (K := [41, 42, 43]) (S := [113]) r9 (by repeat (first | exact Fr.rf | assumption | refine Fr.aJ g ?_ (by decide) | refine Fr.aI g ?_ (by decide) | refine Fr.sI g ?_ (by decide) | refine Fr.sJ g ?_ (by decide))) (by decide) (by decide), HeE.fr (jx := jx) (K := [41, 42, 43]) (S := [113]) e9 (by repeat (first | exact Fr.rf | assumption | refine Fr.aJ g ?_ (by decide) | refine Fr.aI g ?_ (by decide) | refine Fr.sI g ?_ (by decide) | refine Fr.sJ g ?_ (by decide))) (by decide) (by decide), MkI.fr (rm := rm) (K := [41, 42, 43]) (S := [113]) m9 (by repeat (first | exact Fr.rf | assumption | refine Fr.aJ g ?_ (by decide) | refine Fr.aI g ?_ (by decide) | refine Fr.sI g ?_ (by decide) | refine Fr.sJ g ?_ (by decide))) (by decide)⟩
    · rename_i hc31
      skip
      unfold w_X16_sourceTurn_34
      try simp only [forall_eq, rII, rIJ, rIP, rJJ, rJI, rJP, rPP, rPI, rPJ, g1, g2, g3, g4, g5, g6, g7, g8, Nat.reduceEqDiff, Nat.reduceAdd, false_and, and_false, true_and, and_true, reduceIte, nZ0, nZ1]
      refine s_X16_part g rσ (by first | exact hj | (rw [fσ.2.2.2]; exact hj)) hja r9 m9 e9 (by (try simp only [rII, rIJ, rIP, rJJ, rJI, rJP, rPP, rPI, rPJ, g1, g2, g3, g4, g5, g6, g7, g8, Nat.reduceEqDiff, Nat.reduceAdd, false_and, and_false, true_and, and_true, reduceIte, nZ0, nZ1]) <;> (first | omega | with_reducible assumption | (unfold rng; omega) | (unfold rng; (repeat' split) <;> omega) | grind)) (by (try simp only [rII, rIJ, rIP, rJJ, rJI, rJP, rPP, rPI, rPJ, g1, g2, g3, g4, g5, g6, g7, g8, Nat.reduceEqDiff, Nat.reduceAdd, false_and, and_false, true_and, and_true, reduceIte, nZ0, nZ1]) <;> exact JobOK.fr (K := [26, 40, 41, 42, 43, 44, 46, 47, 48, 49, 60, 61, 62, 63, 64, 65, 81, 86, 87, 88, 89, 97, 98, 99, 100, 101, 102, 103, 104, 105, 106, 107, 108, 109]) (S := [27, 32, 66, 67, 92, 93, 96, 113]) hjo hja (by repeat (first | exact Fr.rf | assumption | refine Fr.aJ g ?_ (by decide) | refine Fr.aI g ?_ (by decide) | refine Fr.sI g ?_ (by decide) | refine Fr.sJ g ?_ (by decide))) (by decide)) (by (try simp only [rII, rIJ, rIP, rJJ, rJI, rJP, rPP, rPI, rPJ, g1, g2, g3, g4, g5, g6, g7, g8, Nat.reduceEqDiff, Nat.reduceAdd, false_and, and_false, true_and, and_true, reduceIte, nZ0, nZ1]) <;> exact hto) (fun σ74 _ rσ74 fc p28 => ?_) (fun σx E rx fx px => hX _ _ rx (Fr.tr fσ (Fr.mor (fx) (by decide) (by decide))) ⟨px.1, ThE.fr t9 fx (by decide) (by decide), RecE.fr r9 fx (by decide) (by decide), px.2.2, px.2.1⟩)
      have fσ74 : Fr ra jx rm [26, 40, 41, 42, 43, 44, 46, 47, 48, 49, 60, 61, 62, 63, 64, 65, 81, 86, 87, 88, 89, 97, 98, 99, 100, 101, 102, 103, 104, 105, 106, 107, 108, 109] [27, 32, 66, 67, 92, 93, 96, 113] σ σ74 := Fr.tr fσ (Fr.mor (fc) (by decide) (by decide))
      have t8 := ThE.fr t9 fc (by decide) (by decide)
      have r8 := RecE.fr r9 fc (by decide) (by decide)
      have e8 := p28.2
      have m8 := p28.1
      have t9 := t8; have r9 := r8; have e9 := e8; have m9 := m8; clear t8 r8 e8 m8
      have eσ74_22 := fσ74.1 22 (by decide)
      have eσ74_23 := fσ74.1 23 (by decide)
      have eσ74_24 := fσ74.1 24 (by decide)
      have eσ74_25 := fσ74.1 25 (by decide)
      have eσ74_38 := fσ74.1 38 (by decide)
      have jσ74 := fσ74.2.2.1
      have pσ74 := fσ74.2.2.2
      have obσ74 := Fr.ob fσ74 hja (by decide)
      try simp only [forall_eq, rII, rIJ, rIP, rJJ, rJI, rJP, rPP, rPI, rPJ, g1, g2, g3, g4, g5, g6, g7, g8, Nat.reduceEqDiff, Nat.reduceAdd, false_and, and_false, true_and, and_true, reduceIte, nZ0, nZ1, eσ74_22.1, eσ74_22.2, eσ74_23.1, eσ74_23.2, eσ74_24.1, eσ74_24.2, eσ74_25.1, eσ74_25.2, eσ74_38.1, eσ74_38.2, fun a k => (jσ74 a k).1, fun a k => (jσ74 a k).2, pσ74, obσ74]
      refine s_X16_spread g rσ74 (by first | exact t9 | exact ThE.fr (jx := jx) (K := [40]) (S := []) t9 (by repeat (first | exact Fr.rf | assumption | refine Fr.aJ g ?_ (by decide) | refine Fr.aI g ?_ (by decide) | refine Fr.sI g ?_ (by decide) | refine Fr.sJ g ?_ (by decide))) (by decide) (by decide)) (by (try simp only [rII, rIJ, rIP, rJJ, rJI, rJP, rPP, rPI, rPJ, g1, g2, g3, g4, g5, g6, g7, g8, Nat.reduceEqDiff, Nat.reduceAdd, false_and, and_false, true_and, and_true, reduceIte, nZ0, nZ1, eσ74_22.1, eσ74_22.2, eσ74_23.1, eσ74_23.2, eσ74_24.1, eσ74_24.2, eσ74_25.1, eσ74_25.2, eσ74_38.1, eσ74_38.2, fun a k => (jσ74 a k).1, fun a k => (jσ74 a k).2, pσ74, obσ74]) <;> (first | omega | with_reducible assumption | (unfold rng; omega) | (unfold rng; (repeat' split) <;> omega) | grind)) (by (try simp only [rII, rIJ, rIP, rJJ, rJI, rJP, rPP, rPI, rPJ, g1, g2, g3, g4, g5, g6, g7, g8, Nat.reduceEqDiff, Nat.reduceAdd, false_and, and_false, true_and, and_true, reduceIte, nZ0, nZ1, eσ74_22.1, eσ74_22.2, eσ74_23.1, eσ74_23.2, eσ74_24.1, eσ74_24.2, eσ74_25.1, eσ74_25.2, eσ74_38.1, eσ74_38.2, fun a k => (jσ74 a k).1, fun a k => (jσ74 a k).2, pσ74, obσ74]) <;> (first | omega | with_reducible assumption | (unfold rng; omega) | (unfold rng; (repeat' split) <;> omega) | grind)) (by first | decide | omega | exact big) (fun σ75 _ rσ75 fc p29 => ?_) (fun σx E rx fx px => hX _ _ rx (Fr.tr fσ74 (Fr.mor (fx) (by decide) (by decide))) ⟨px.1, px.2, RecE.fr (RecE.fr (K := [40]) (S := []) r9 (by repeat (first | exact Fr.rf | assumption | refine Fr.aJ g ?_ (by decide) | refine Fr.aI g ?_ (by decide) | refine Fr.sI g ?_ (by decide) | refine Fr.sJ g ?_ (by decide))) (by decide) (by decide)) fx (by decide) (by decide), HeE.fr (HeE.fr (jx := jx) (K := [40]) (S := []) e9 (by repeat (first | exact Fr.rf | assumption | refine Fr.aJ g ?_ (by decide) | refine Fr.aI g ?_ (by decide) | refine Fr.sI g ?_ (by decide) | refine Fr.sJ g ?_ (by decide))) (by decide) (by decide)) fx (by decide) (by decide), MkI.fr (MkI.fr (rm := rm) (K := [40]) (S := []) m9 (by repeat (first | exact Fr.rf | assumption | refine Fr.aJ g ?_ (by decide) | refine Fr.aI g ?_ (by decide) | refine Fr.sI g ?_ (by decide) | refine Fr.sJ g ?_ (by decide))) (by decide)) fx (by decide)⟩)
      have fσ75 : Fr ra jx rm [26, 40, 41, 42, 43, 44, 46, 47, 48, 49, 60, 61, 62, 63, 64, 65, 81, 86, 87, 88, 89, 97, 98, 99, 100, 101, 102, 103, 104, 105, 106, 107, 108, 109] [27, 32, 66, 67, 92, 93, 96, 113] σ σ75 := Fr.tr fσ74 (Fr.mor (fc) (by decide) (by decide))
      have t8 := p29
      have r8 := RecE.fr (RecE.fr (K := [40]) (S := []) r9 (by repeat (first | exact Fr.rf | assumption | refine Fr.aJ g ?_ (by decide) | refine Fr.aI g ?_ (by decide) | refine Fr.sI g ?_ (by decide) | refine Fr.sJ g ?_ (by decide))) (by decide) (by decide)) fc (by decide) (by decide)
      have e8 := HeE.fr (HeE.fr (jx := jx) (K := [40]) (S := []) e9 (by repeat (first | exact Fr.rf | assumption | refine Fr.aJ g ?_ (by decide) | refine Fr.aI g ?_ (by decide) | refine Fr.sI g ?_ (by decide) | refine Fr.sJ g ?_ (by decide))) (by decide) (by decide)) fc (by decide) (by decide)
      have m8 := MkI.fr (MkI.fr (rm := rm) (K := [40]) (S := []) m9 (by repeat (first | exact Fr.rf | assumption | refine Fr.aJ g ?_ (by decide) | refine Fr.aI g ?_ (by decide) | refine Fr.sI g ?_ (by decide) | refine Fr.sJ g ?_ (by decide))) (by decide)) fc (by decide)
      have t9 := t8; have r9 := r8; have e9 := e8; have m9 := m8; clear t8 r8 e8 m8
      have eσ75_22 := fσ75.1 22 (by decide)
      have eσ75_23 := fσ75.1 23 (by decide)
      have eσ75_24 := fσ75.1 24 (by decide)
      have eσ75_25 := fσ75.1 25 (by decide)
      have eσ75_38 := fσ75.1 38 (by decide)
      have jσ75 := fσ75.2.2.1
      have pσ75 := fσ75.2.2.2
      have obσ75 := Fr.ob fσ75 hja (by decide)
      try simp only [forall_eq, rII, rIJ, rIP, rJJ, rJI, rJP, rPP, rPI, rPJ, g1, g2, g3, g4, g5, g6, g7, g8, Nat.reduceEqDiff, Nat.reduceAdd, false_and, and_false, true_and, and_true, reduceIte, nZ0, nZ1, eσ75_22.1, eσ75_22.2, eσ75_23.1, eσ75_23.2, eσ75_24.1, eσ75_24.2, eσ75_25.1, eσ75_25.2, eσ75_38.1, eσ75_38.2, fun a k => (jσ75 a k).1, fun a k => (jσ75 a k).2, pσ75, obσ75]
      refine hQ _ _ ?_ ?_ ?_
      · exact rσ75
      · exact fσ75
      · first | exact ⟨t9, r9, e9, m9⟩ | exact ⟨ThE.fr (jx := jx) (K := [41, 42, 43]) (S := [113]) t9 (by repeat (first | exact Fr.rf | assumption | refine Fr.aJ g ?_ (by decide) | refine Fr.aI g ?_ (by decide) | refine Fr.sI g ?_ (by decide) | refine Fr.sJ g ?_ (by decide))) (by decide) (by decide), RecE.fr (K := [41, 42, 43]) (S := [113]) r9 (by repeat (first | exact Fr.rf | assumption | refine Fr.aJ g ?_ (by decide) | refine Fr.aI g ?_ (by decide) | refine Fr.sI g ?_ (by decide) | refine Fr.sJ g ?_ (by decide))) (by decide) (by decide), HeE.fr (jx := jx) (K := [41, 42, 43]) (S := [113]) e9 (by repeat (first | exact Fr.rf | assumption | refine Fr.aJ g ?_ (by decide) | refine Fr.aI g ?_ (by decide) | refine Fr.sI g ?_ (by decide) | refine Fr.sJ g ?_ (by decide))) (by decide) (by decide), MkI.fr (rm := rm) (K := [41, 42, 43]) (S := [113]) m9 (by repeat (first | exact Fr.rf | assumption | refine Fr.aJ g ?_ (by decide) | refine Fr.aI g ?_ (by decide) | refine Fr.sI g ?_ (by decide) | refine Fr.sJ g ?_ (by decide))) (by decide)⟩
set_option maxHeartbeats 2000000 in
theorem s2_X16_firstChannel {ra : Nat → Nat} {jx : Nat → Nat → Nat} {rm : Nat} (g : Geo ra jx rm) {σ : Sg} {v1 : Int} (rσ : Rg ra jx rm σ) {Q : Sg → Int → Prop} {X : Sg → String → Prop} (hQ : ∀ (r : Int), ((0 ≤ r ∧ r ≤ gI σ rm 50) ∧ (∀ i : Nat, (i : Int) < r → gI σ (ra 52) i ≠ v1) ∧ (r < gI σ rm 50 → gI σ (ra 52) r.toNat = v1)) → Q σ r) : wp_X16_firstChannel ra jx rm v1 σ Q X := by
  obtain ⟨g1, g2, g3, g4, g5, g6, g7, g8⟩ := id g
  have fσ : Fr ra jx rm [] [] σ σ := Fr.rf
  unfold wp_X16_firstChannel
  unfold w_X16_firstChannel_0
  try simp only [forall_eq, rII, rIJ, rIP, rJJ, rJI, rJP, rPP, rPI, rPJ, g1, g2, g3, g4, g5, g6, g7, g8, Nat.reduceEqDiff, Nat.reduceAdd, false_and, and_false, true_and, and_true, reduceIte, nZ0, nZ1]
  have q1 := rσ.2.1 50; simp only [rgS] at q1
  have L2 : ∀ (fu2 : Nat) (v2 : Int), ((0 ≤ v2 ∧ v2 ≤ gI σ rm 50) ∧ (∀ i : Nat, (i : Int) < v2 → gI σ (ra 52) i ≠ v1)) → ((gI σ rm 50 - v2).toNat) < fu2 → wl_X16_firstChannel_2 ra jx rm Q X fu2 σ v1 v2 := by
    intro fu2
    induction fu2 with
    | zero => intro  _ _ h9; omega
    | succ fu2 ih2 =>
      intro v2 hi2 hm2
      unfold wl_X16_firstChannel_2
      unfold w_X16_firstChannel_2
      try simp only [forall_eq, rII, rIJ, rIP, rJJ, rJI, rJP, rPP, rPI, rPJ, g1, g2, g3, g4, g5, g6, g7, g8, Nat.reduceEqDiff, Nat.reduceAdd, false_and, and_false, true_and, and_true, reduceIte, nZ0, nZ1]
      split
      · rename_i hc7
        skip
        unfold w_X16_firstChannel_26
        try simp only [forall_eq, rII, rIJ, rIP, rJJ, rJI, rJP, rPP, rPI, rPJ, g1, g2, g3, g4, g5, g6, g7, g8, Nat.reduceEqDiff, Nat.reduceAdd, false_and, and_false, true_and, and_true, reduceIte, nZ0, nZ1]
        refine hQ _ ?_
        · first | exact ⟨hi2.1, hi2.2, fun q => absurd q (by omega)⟩ | (refine ⟨hi2.1, hi2.2, fun _ => ?_⟩; first | assumption | omega)
      · rename_i hc7
        skip
        unfold w_X16_firstChannel_10
        try simp only [forall_eq, rII, rIJ, rIP, rJJ, rJI, rJP, rPP, rPI, rPJ, g1, g2, g3, g4, g5, g6, g7, g8, Nat.reduceEqDiff, Nat.reduceAdd, false_and, and_false, true_and, and_true, reduceIte, nZ0, nZ1]
        refine ⟨by (first | omega | with_reducible assumption | (unfold rng; omega) | (unfold rng; (repeat' split) <;> omega) | grind), ?_⟩
        have q2 := rσ.1 52 (v2.toNat); simp only [rgT] at q2
        split
        · rename_i hc17
          skip
          unfold w_X16_firstChannel_26
          try simp only [forall_eq, rII, rIJ, rIP, rJJ, rJI, rJP, rPP, rPI, rPJ, g1, g2, g3, g4, g5, g6, g7, g8, Nat.reduceEqDiff, Nat.reduceAdd, false_and, and_false, true_and, and_true, reduceIte, nZ0, nZ1]
          refine hQ _ ?_
          · first | exact ⟨hi2.1, hi2.2, fun q => absurd q (by omega)⟩ | (refine ⟨hi2.1, hi2.2, fun _ => ?_⟩; first | assumption | omega)
        · rename_i hc17
          skip
          unfold w_X16_firstChannel_20
          try simp only [forall_eq, rII, rIJ, rIP, rJJ, rJI, rJP, rPP, rPI, rPJ, g1, g2, g3, g4, g5, g6, g7, g8, Nat.reduceEqDiff, Nat.reduceAdd, false_and, and_false, true_and, and_true, reduceIte, nZ0, nZ1]
          refine ⟨by (first | omega | with_reducible assumption | (unfold rng; omega) | (unfold rng; (repeat' split) <;> omega) | grind), ?_⟩
          refine ih2 _ ?_ ?_
          · first | exact ⟨⟨by omega, by omega⟩, fun i hi => absurd hi (by omega)⟩ | (refine ⟨⟨by omega, by omega⟩, fun i hi => ?_⟩; by_cases q : i = v2.toNat; (rw [q]; assumption); exact hi2.2 i (by omega))
          · (try simp only [rII, rIJ, rIP, rJJ, rJI, rJP, rPP, rPI, rPJ, g1, g2, g3, g4, g5, g6, g7, g8, Nat.reduceEqDiff, Nat.reduceAdd, false_and, and_false, true_and, and_true, reduceIte, nZ0, nZ1]) <;> (first | omega | with_reducible assumption | (unfold rng; omega) | (unfold rng; (repeat' split) <;> omega) | grind)
  refine ⟨_, L2 _ _ ?_ (Nat.lt_succ_self _)⟩
  · first | exact ⟨⟨by omega, by omega⟩, fun i hi => absurd hi (by omega)⟩ | (refine ⟨⟨by omega, by omega⟩, fun i hi => ?_⟩; by_cases q : i = v2.toNat; (rw [q]; assumption); exact hi2.2 i (by omega))
set_option maxHeartbeats 2000000 in
theorem s2_X16_channelsOf {ra : Nat → Nat} {jx : Nat → Nat → Nat} {rm : Nat} (g : Geo ra jx rm) {σ : Sg} {v1 : Int} (rσ : Rg ra jx rm σ) {Q : Sg → Int → Prop} {X : Sg → String → Prop} (hQ : ∀ (r : Int), (r = cT ra σ v1 (gI σ rm 50) ∧ 0 ≤ r ∧ r ≤ gI σ rm 50) → Q σ r) : wp_X16_channelsOf ra jx rm v1 σ Q X := by
  obtain ⟨g1, g2, g3, g4, g5, g6, g7, g8⟩ := id g
  have fσ : Fr ra jx rm [] [] σ σ := Fr.rf
  unfold wp_X16_channelsOf
  unfold w_X16_channelsOf_0
  try simp only [forall_eq, rII, rIJ, rIP, rJJ, rJI, rJP, rPP, rPI, rPJ, g1, g2, g3, g4, g5, g6, g7, g8, Nat.reduceEqDiff, Nat.reduceAdd, false_and, and_false, true_and, and_true, reduceIte, nZ0, nZ1]
  have q1 := rσ.2.1 50; simp only [rgS] at q1
  have L4 : ∀ (fu4 : Nat) (v2 : Int) (v3 : Int), (0 ≤ v3 ∧ v3 ≤ gI σ rm 50 ∧ v2 = cT ra σ v1 v3 ∧ 0 ≤ v2 ∧ v2 ≤ v3) → ((gI σ rm 50 - v3).toNat) < fu4 → wl_X16_channelsOf_4 ra jx rm Q X fu4 σ v1 v2 v3 := by
    intro fu4
    induction fu4 with
    | zero => intro  _ _ _ h9; omega
    | succ fu4 ih4 =>
      intro v2 v3 hi4 hm4
      unfold wl_X16_channelsOf_4
      unfold w_X16_channelsOf_4
      try simp only [forall_eq, rII, rIJ, rIP, rJJ, rJI, rJP, rPP, rPI, rPJ, g1, g2, g3, g4, g5, g6, g7, g8, Nat.reduceEqDiff, Nat.reduceAdd, false_and, and_false, true_and, and_true, reduceIte, nZ0, nZ1]
      split
      · rename_i hc9
        skip
        unfold w_X16_channelsOf_36
        try simp only [forall_eq, rII, rIJ, rIP, rJJ, rJI, rJP, rPP, rPI, rPJ, g1, g2, g3, g4, g5, g6, g7, g8, Nat.reduceEqDiff, Nat.reduceAdd, false_and, and_false, true_and, and_true, reduceIte, nZ0, nZ1]
        refine hQ _ ?_
        · refine ⟨?_, by omega, by omega⟩; have e3 : v3 = gI σ rm 50 := (by omega); rw [← e3]; omega
      · rename_i hc9
        skip
        unfold w_X16_channelsOf_12
        try simp only [forall_eq, rII, rIJ, rIP, rJJ, rJI, rJP, rPP, rPI, rPJ, g1, g2, g3, g4, g5, g6, g7, g8, Nat.reduceEqDiff, Nat.reduceAdd, false_and, and_false, true_and, and_true, reduceIte, nZ0, nZ1]
        refine ⟨by (first | omega | with_reducible assumption | (unfold rng; omega) | (unfold rng; (repeat' split) <;> omega) | grind), ?_⟩
        have q2 := rσ.1 52 (v3.toNat); simp only [rgT] at q2
        split
        · rename_i hc20
          skip
          unfold w_X16_channelsOf_27
          try simp only [forall_eq, rII, rIJ, rIP, rJJ, rJI, rJP, rPP, rPI, rPJ, g1, g2, g3, g4, g5, g6, g7, g8, Nat.reduceEqDiff, Nat.reduceAdd, false_and, and_false, true_and, and_true, reduceIte, nZ0, nZ1]
          unfold w_X16_channelsOf_28
          try simp only [forall_eq, rII, rIJ, rIP, rJJ, rJI, rJP, rPP, rPI, rPJ, g1, g2, g3, g4, g5, g6, g7, g8, Nat.reduceEqDiff, Nat.reduceAdd, false_and, and_false, true_and, and_true, reduceIte, nZ0, nZ1]
          refine ⟨by (first | omega | with_reducible assumption | (unfold rng; omega) | (unfold rng; (repeat' split) <;> omega) | grind), ?_⟩
          refine ⟨by (first | omega | with_reducible assumption | (unfold rng; omega) | (unfold rng; (repeat' split) <;> omega) | grind), ?_⟩
          refine ih4 _ _ ?_ ?_
          · first | exact ⟨by omega, by omega, rfl, by omega, by omega⟩ | (refine ⟨by omega, by omega, ?_, by omega, by omega⟩ <;> first | omega | (rw [cT_succ (by omega)]; simp only [*]; (try simp) <;> omega) | grind [cT_succ])
          · (try simp only [rII, rIJ, rIP, rJJ, rJI, rJP, rPP, rPI, rPJ, g1, g2, g3, g4, g5, g6, g7, g8, Nat.reduceEqDiff, Nat.reduceAdd, false_and, and_false, true_and, and_true, reduceIte, nZ0, nZ1]) <;> (first | omega | with_reducible assumption | (unfold rng; omega) | (unfold rng; (repeat' split) <;> omega) | grind)
        · rename_i hc20
          skip
          unfold w_X16_channelsOf_23
          try simp only [forall_eq, rII, rIJ, rIP, rJJ, rJI, rJP, rPP, rPI, rPJ, g1, g2, g3, g4, g5, g6, g7, g8, Nat.reduceEqDiff, Nat.reduceAdd, false_and, and_false, true_and, and_true, reduceIte, nZ0, nZ1]
          unfold w_X16_channelsOf_28
          try simp only [forall_eq, rII, rIJ, rIP, rJJ, rJI, rJP, rPP, rPI, rPJ, g1, g2, g3, g4, g5, g6, g7, g8, Nat.reduceEqDiff, Nat.reduceAdd, false_and, and_false, true_and, and_true, reduceIte, nZ0, nZ1]
          refine ⟨by (first | omega | with_reducible assumption | (unfold rng; omega) | (unfold rng; (repeat' split) <;> omega) | grind), ?_⟩
          refine ⟨by (first | omega | with_reducible assumption | (unfold rng; omega) | (unfold rng; (repeat' split) <;> omega) | grind), ?_⟩
          refine ih4 _ _ ?_ ?_
          · first | exact ⟨by omega, by omega, rfl, by omega, by omega⟩ | (refine ⟨by omega, by omega, ?_, by omega, by omega⟩ <;> first | omega | (rw [cT_succ (by omega)]; simp only [*]; (try simp) <;> omega) | grind [cT_succ])
          · (try simp only [rII, rIJ, rIP, rJJ, rJI, rJP, rPP, rPI, rPJ, g1, g2, g3, g4, g5, g6, g7, g8, Nat.reduceEqDiff, Nat.reduceAdd, false_and, and_false, true_and, and_true, reduceIte, nZ0, nZ1]) <;> (first | omega | with_reducible assumption | (unfold rng; omega) | (unfold rng; (repeat' split) <;> omega) | grind)
  refine ⟨_, L4 _ _ _ ?_ (Nat.lt_succ_self _)⟩
  · first | exact ⟨by omega, by omega, rfl, by omega, by omega⟩ | (refine ⟨by omega, by omega, ?_, by omega, by omega⟩ <;> first | omega | (rw [cT_succ (by omega)]; simp only [*]; (try simp) <;> omega) | grind [cT_succ])
set_option maxHeartbeats 400000 in
theorem s_X16_taskTurn {ra : Nat → Nat} {jx : Nat → Nat → Nat} {rm : Nat} {ja : Nat} (g : Geo ra jx rm) {σ : Sg} {v1 : Int} (rσ : Rg ra jx rm σ) (hj : gP σ rm 17 = some ja) (hja : ja = ra 15 ∨ ja = ra 16) (hre : RecE ra jx rm ja σ) (hth : ThE ra rm σ) (hhe : HeE ra rm σ) (hmk : MkI ra jx ja σ) (h1 : 0 ≤ v1 ∧ v1 < 64) (hp : 1 ≤ gI σ rm 33) (hns : gI σ (jx ja 2) (gI σ (ra 38) v1.toNat).toNat ≠ 0) (hjo : JobOK jx ja σ) (hto : gI σ (ra 38) v1.toNat < gI σ ja 0) (hly : LyI ra jx rm ja σ) (hlc : LcI ra rm σ) {Q : Sg → Int → Prop} {X : Sg → String → Prop} (hQ : ∀ (σ' : Sg) (r : Int), Rg ra jx rm σ' → Fr ra jx rm [20, 26, 40, 41, 42, 44, 45, 46, 47, 48, 49, 54, 55, 56, 57, 60, 61, 62, 63, 64, 65, 68, 69, 70, 71, 72, 73, 74, 75, 76, 77, 78, 81, 82, 83, 84, 85, 86, 87, 88, 89, 97, 98, 99, 100, 101, 102, 103, 104, 105, 106, 107, 108, 109] [21, 27, 32, 66, 67, 79, 80, 90, 91, 92, 93, 96, 113] σ σ' → ((ThE ra rm σ' ∧ RecE ra jx rm ja σ' ∧ HeE ra rm σ' ∧ MkI ra jx ja σ') ∧ LcI ra rm σ' ∧ (∀ i, gI σ' (ra 54) i ≤ gI σ (ra 54) i)) → Q σ' r) (hX : ∀ (σ' : Sg) (E : String), Rg ra jx rm σ' → Fr ra jx rm [20, 26, 40, 41, 42, 44, 45, 46, 47, 48, 49, 54, 55, 56, 57, 60, 61, 62, 63, 64, 65, 68, 69, 70, 71, 72, 73, 74, 75, 76, 77, 78, 81, 82, 83, 84, 85, 86, 87, 88, 89, 97, 98, 99, 100, 101, 102, 103, 104, 105, 106, 107, 108, 109] [21, 27, 32, 66, 67, 79, 80, 90, 91, 92, 93, 96, 113] σ σ' → (E = "StreamHouseModel$Broken" ∧ (ThE ra rm σ' ∧ RecE ra jx rm ja σ' ∧ HeE ra rm σ' ∧ MkI ra jx ja σ') ∧ LcI ra rm σ' ∧ (∀ i, gI σ' (ra 54) i ≤ gI σ (ra 54) i)) → X σ' E) : wp_X16_taskTurn ra jx rm v1 σ Q X := by
  obtain ⟨g1, g2, g3, g4, g5, g6, g7, g8⟩ := id g
  have fσ : Fr ra jx rm [20, 26, 40, 41, 42, 44, 45, 46, 47, 48, 49, 54, 55, 56, 57, 60, 61, 62, 63, 64, 65, 68, 69, 70, 71, 72, 73, 74, 75, 76, 77, 78, 81, 82, 83, 84, 85, 86, 87, 88, 89, 97, 98, 99, 100, 101, 102, 103, 104, 105, 106, 107, 108, 109] [21, 27, 32, 66, 67, 79, 80, 90, 91, 92, 93, 96, 113] σ σ := Fr.rf
  have t9 := hth; have r9 := hre; have e9 := hhe; have m9 := hmk
  have hoo := rσ.1 38 v1.toNat; simp only [rgT] at hoo
  obtain ⟨own, ps, bm, F, hti⟩ := id hth
  have h50 := rσ.2.1 50; simp only [rgS] at h50
  unfold wp_X16_taskTurn
  unfold w_X16_taskTurn_0
  try simp only [forall_eq, rII, rIJ, rIP, rJJ, rJI, rJP, rPP, rPI, rPJ, g1, g2, g3, g4, g5, g6, g7, g8, Nat.reduceEqDiff, Nat.reduceAdd, false_and, and_false, true_and, and_true, reduceIte, nZ0, nZ1]
  refine s2_X16_firstChannel g rσ (fun r30 p1 => ?_)
  try simp only [forall_eq, rII, rIJ, rIP, rJJ, rJI, rJP, rPP, rPI, rPJ, g1, g2, g3, g4, g5, g6, g7, g8, Nat.reduceEqDiff, Nat.reduceAdd, false_and, and_false, true_and, and_true, reduceIte, nZ0, nZ1]
  have pf := p1
  have hvx : ∀ c0 : Nat, gI σ (ra 52) c0 = (v1.toNat : Int) → r30 ≤ (c0 : Int) := fun c0 b3 => by by_cases q : (c0 : Int) < r30; exact absurd (b3.trans (by omega)) (pf.2.1 c0 q); omega
  refine s2_X16_channelsOf g rσ (fun r32 p2 => ?_)
  try simp only [forall_eq, rII, rIJ, rIP, rJJ, rJI, rJP, rPP, rPI, rPJ, g1, g2, g3, g4, g5, g6, g7, g8, Nat.reduceEqDiff, Nat.reduceAdd, false_and, and_false, true_and, and_true, reduceIte, nZ0, nZ1]
  have pn := p2
  have hfn := cT_win (ra := ra) (σ := σ) (t := v1) (b := gI σ rm 50) (n := gI σ rm 50) pf.1.1 pf.1.2 (by omega) (fun i h0 hn hi => pf.2.1 i.toNat (by omega))
  rw [← pn.1] at hfn
  have pn2 := pn.2
  have pf1 := pf.1
  refine ⟨by (first | omega | with_reducible assumption | (unfold rng; omega) | (unfold rng; (repeat' split) <;> omega)), ?_⟩
  have q3 := rσ.1 45 (v1.toNat); simp only [rgT] at q3
  split
  · rename_i hc19
    skip
    unfold w_X16_taskTurn_26
    try simp only [forall_eq, rII, rIJ, rIP, rJJ, rJI, rJP, rPP, rPI, rPJ, g1, g2, g3, g4, g5, g6, g7, g8, Nat.reduceEqDiff, Nat.reduceAdd, false_and, and_false, true_and, and_true, reduceIte, nZ0, nZ1]
    obtain ⟨c0, b1, b2, b3⟩ := hlc v1.toNat (by omega) (by assumption)
    have hv4 := hvx c0 b3
    refine ⟨by (first | omega | with_reducible assumption | (unfold rng; omega) | (unfold rng; (repeat' split) <;> omega)), ?_⟩
    refine ⟨by (first | omega | with_reducible assumption | (unfold rng; omega) | (unfold rng; (repeat' split) <;> omega)), ?_⟩
    unfold w_X16_taskTurn_34
    try simp only [forall_eq, rII, rIJ, rIP, rJJ, rJI, rJP, rPP, rPI, rPJ, g1, g2, g3, g4, g5, g6, g7, g8, Nat.reduceEqDiff, Nat.reduceAdd, false_and, and_false, true_and, and_true, reduceIte, nZ0, nZ1]
    have L42 : ∀ (fu42 : Nat) (v5 : Int) (v6 : Int), (0 ≤ v6 ∧ v6 ≤ r32 ∧ (v5 = -1 ∨ (r30 ≤ v5 ∧ v5 < r30 + r32 ∧ 0 < gI σ (ra 54) v5.toNat))) → ((r32 - v6).toNat) < fu42 → wl_X16_taskTurn_42 ra jx rm Q X fu42 σ v1 r30 r32 ((gI σ (ra 45) v1.toNat) + 1) v5 v6 := by
      intro fu42
      induction fu42 with
      | zero => intro  _ _ _ h9; omega
      | succ fu42 ih42 =>
        intro v5 v6 hi42 hm42
        unfold wl_X16_taskTurn_42
        unfold w_X16_taskTurn_42
        try simp only [forall_eq, rII, rIJ, rIP, rJJ, rJI, rJP, rPP, rPI, rPJ, g1, g2, g3, g4, g5, g6, g7, g8, Nat.reduceEqDiff, Nat.reduceAdd, false_and, and_false, true_and, and_true, reduceIte, nZ0, nZ1]
        split
        · rename_i hc45
          skip
          unfold w_X16_taskTurn_101
          try simp only [forall_eq, rII, rIJ, rIP, rJJ, rJI, rJP, rPP, rPI, rPJ, g1, g2, g3, g4, g5, g6, g7, g8, Nat.reduceEqDiff, Nat.reduceAdd, false_and, and_false, true_and, and_true, reduceIte, nZ0, nZ1]
          split
          · rename_i hc104
            skip
            unfold w_X16_taskTurn_109
            try simp only [forall_eq, rII, rIJ, rIP, rJJ, rJI, rJP, rPP, rPI, rPJ, g1, g2, g3, g4, g5, g6, g7, g8, Nat.reduceEqDiff, Nat.reduceAdd, false_and, and_false, true_and, and_true, reduceIte, nZ0, nZ1]
            have hc5 := hi42.2.2.resolve_left (by assumption)
            have hin := hly.mid pf.1 pf.2.1 pf.2.2 hc5.1 (by rw [← pn.1]; exact hc5.2.1)
            have hcy := (hly.2.1 v5.toNat (by omega)).2
            rw [hin.2] at hcy
            have h54 := rσ.1 54 v5.toNat; simp only [rgT] at h54
            have h55 := rσ.1 55 v5.toNat; simp only [rgT] at h55
            have h50 := rσ.2.1 50; simp only [rgS] at h50
            refine ⟨by (first | omega | with_reducible assumption | (unfold rng; omega) | (unfold rng; (repeat' split) <;> omega)), ?_⟩
            refine ⟨by (first | omega | with_reducible assumption | (unfold rng; omega) | (unfold rng; (repeat' split) <;> omega)), ?_⟩
            refine ⟨by (first | omega | with_reducible assumption | (unfold rng; omega) | (unfold rng; (repeat' split) <;> omega)), ?_⟩
            have q4 := rσ.1 55 (v5.toNat); simp only [rgT] at q4
            refine ⟨by (first | omega | with_reducible assumption | (unfold rng; omega) | (unfold rng; (repeat' split) <;> omega)), ?_⟩
            refine ⟨by (first | omega | with_reducible assumption | (unfold rng; omega) | (unfold rng; (repeat' split) <;> omega)), ?_⟩
            refine ⟨by (first | omega | with_reducible assumption | (unfold rng; omega) | (unfold rng; (repeat' split) <;> omega)), ?_⟩
            refine ⟨by (first | omega | with_reducible assumption | (unfold rng; omega) | (unfold rng; (repeat' split) <;> omega)), ?_⟩
            refine ⟨by (first | omega | with_reducible assumption | (unfold rng; omega) | (unfold rng; (repeat' split) <;> omega)), ?_⟩
            have q5 := remI_eq (x := ((gI σ (ra 55) v5.toNat) + 1)) (y := 8) (by (first | omega | with_reducible assumption | (unfold rng; omega) | (unfold rng; (repeat' split) <;> omega))) (by (first | omega | with_reducible assumption | (unfold rng; omega) | (unfold rng; (repeat' split) <;> omega)))
            refine ⟨by (first | omega | with_reducible assumption | (unfold rng; omega) | (unfold rng; (repeat' split) <;> omega)), ?_⟩
            have q6 := rσ.1 54 (v5.toNat); simp only [rgT] at q6
            refine ⟨by (first | omega | with_reducible assumption | (unfold rng; omega) | (unfold rng; (repeat' split) <;> omega)), ?_⟩
            refine ⟨by (first | omega | with_reducible assumption | (unfold rng; omega) | (unfold rng; (repeat' split) <;> omega)), ?_⟩
            refine ⟨by (first | omega | with_reducible assumption | (unfold rng; omega) | (unfold rng; (repeat' split) <;> omega)), ?_⟩
            refine ⟨by (first | omega | with_reducible assumption | (unfold rng; omega) | (unfold rng; (repeat' split) <;> omega)), ?_⟩
            have q7 := rσ.1 41 (v1.toNat); simp only [rgT] at q7
            have q8 := rσ.1 59 (((8 * v5) + (gI σ (ra 55) v5.toNat)).toNat); simp only [rgT] at q8
            refine ⟨by (first | omega | with_reducible assumption | (unfold rng; omega) | (unfold rng; (repeat' split) <;> omega)), ?_⟩
            refine ⟨by (first | omega | with_reducible assumption | (unfold rng; omega) | (unfold rng; (repeat' split) <;> omega)), ?_⟩
            refine ⟨by (first | omega | with_reducible assumption | (unfold rng; omega) | (unfold rng; (repeat' split) <;> omega)), ?_⟩
            have q9 := rσ.1 60 ((gI σ (ra 59) ((8 * v5) + (gI σ (ra 55) v5.toNat)).toNat).toNat); simp only [rgT] at q9
            have q10 := rσ.1 63 ((gI σ (ra 59) ((8 * v5) + (gI σ (ra 55) v5.toNat)).toNat).toNat); simp only [rgT] at q10
            have L212 : ∀ (fu212 : Nat) (τ212 : Sg) (v11 : Int), Rg ra jx rm τ212 → Fr ra jx rm [20, 26, 40, 41, 42, 44, 45, 46, 47, 48, 49, 54, 55, 56, 57, 60, 61, 62, 63, 64, 65, 68, 69, 70, 71, 72, 73, 74, 75, 76, 77, 78, 81, 82, 83, 84, 85, 86, 87, 88, 89, 97, 98, 99, 100, 101, 102, 103, 104, 105, 106, 107, 108, 109] [21, 27, 32, 66, 67, 79, 80, 90, 91, 92, 93, 96, 113] σ τ212 → (ThH ra rm τ212 (gI σ (ra 59) ((8 * v5) + (gI σ (ra 55) v5.toNat)).toNat) ∧ (RecE ra jx rm ja τ212 ∧ HeE ra rm τ212 ∧ MkI ra jx ja τ212) ∧ LcI ra rm τ212 ∧ (∀ i, gI τ212 (ra 54) i ≤ gI σ (ra 54) i) ∧ 0 ≤ v11 ∧ v11 ≤ 8) → ((8 - v11).toNat) < fu212 → wl_X16_taskTurn_212 ra jx rm Q X fu212 τ212 v1 r30 r32 v5 (gI σ (ra 59) ((8 * v5) + (gI σ (ra 55) v5.toNat)).toNat) (gI σ (ra 60) (gI σ (ra 59) ((8 * v5) + (gI σ (ra 55) v5.toNat)).toNat).toNat) (gJ σ (ra 61) (gI σ (ra 59) ((8 * v5) + (gI σ (ra 55) v5.toNat)).toNat).toNat) (gI σ (ra 63) (gI σ (ra 59) ((8 * v5) + (gI σ (ra 55) v5.toNat)).toNat).toNat) v11 := by
              intro fu212
              induction fu212 with
              | zero => intro τ212 _ _ _ _ h9; omega
              | succ fu212 ih212 =>
                intro τ212 v11 rτ212 fτ212 hi212 hm212
                unfold wl_X16_taskTurn_212
                have eτ212_38 := fτ212.1 38 (by decide)
                have eτ212_52 := fτ212.1 52 (by decide)
                have eτ212_53 := fτ212.1 53 (by decide)
                have eτ212_59 := fτ212.1 59 (by decide)
                have jτ212 := fτ212.2.2.1
                have obτ212 := Fr.ob fτ212 hja (by decide)
                unfold w_X16_taskTurn_212
                try simp only [forall_eq, rII, rIJ, rIP, rJJ, rJI, rJP, rPP, rPI, rPJ, g1, g2, g3, g4, g5, g6, g7, g8, Nat.reduceEqDiff, Nat.reduceAdd, false_and, and_false, true_and, and_true, reduceIte, nZ0, nZ1, eτ212_38.1, eτ212_38.2, eτ212_52.1, eτ212_52.2, eτ212_53.1, eτ212_53.2, eτ212_59.1, eτ212_59.2, fun a k => (jτ212 a k).1, fun a k => (jτ212 a k).2, obτ212]
                obtain ⟨h9, ⟨r9, e9, m9⟩, l9, c9, k1, k2⟩ := hi212
                split
                · rename_i hc216
                  skip
                  unfold w_X16_taskTurn_245
                  try simp only [forall_eq, rII, rIJ, rIP, rJJ, rJI, rJP, rPP, rPI, rPJ, g1, g2, g3, g4, g5, g6, g7, g8, Nat.reduceEqDiff, Nat.reduceAdd, false_and, and_false, true_and, and_true, reduceIte, nZ0, nZ1, eτ212_38.1, eτ212_38.2, eτ212_52.1, eτ212_52.2, eτ212_53.1, eτ212_53.2, eτ212_59.1, eτ212_59.2, fun a k => (jτ212 a k).1, fun a k => (jτ212 a k).2, obτ212]
                  refine s_X16_free g rτ212 h9 (by (try simp only [rII, rIJ, rIP, rJJ, rJI, rJP, rPP, rPI, rPJ, g1, g2, g3, g4, g5, g6, g7, g8, Nat.reduceEqDiff, Nat.reduceAdd, false_and, and_false, true_and, and_true, reduceIte, nZ0, nZ1, eτ212_38.1, eτ212_38.2, eτ212_52.1, eτ212_52.2, eτ212_53.1, eτ212_53.2, eτ212_59.1, eτ212_59.2, fun a k => (jτ212 a k).1, fun a k => (jτ212 a k).2, obτ212]) <;> (first | omega | with_reducible assumption | (unfold rng; omega) | (unfold rng; (repeat' split) <;> omega))) (fun σ38 _ rσ38 fc p11 => ?_)
                  have fσ38 : Fr ra jx rm [20, 26, 40, 41, 42, 44, 45, 46, 47, 48, 49, 54, 55, 56, 57, 60, 61, 62, 63, 64, 65, 68, 69, 70, 71, 72, 73, 74, 75, 76, 77, 78, 81, 82, 83, 84, 85, 86, 87, 88, 89, 97, 98, 99, 100, 101, 102, 103, 104, 105, 106, 107, 108, 109] [21, 27, 32, 66, 67, 79, 80, 90, 91, 92, 93, 96, 113] σ σ38 := Fr.tr fτ212 (Fr.mor (fc) (by decide) (by decide))
                  have t8 := p11
                  have r8 := RecE.fr r9 fc (by decide) (by decide)
                  have e8 := HeE.fr e9 fc (by decide) (by decide)
                  have m8 := MkI.fr m9 fc (by decide)
                  have t9 := t8; have r9 := r8; have e9 := e8; have m9 := m8; clear t8 r8 e8 m8
                  have l9 := LcI.fr l9 fc (by decide) (by decide)
                  have c9 : ∀ i, gI σ38 (ra 54) i ≤ gI σ (ra 54) i := fun i => by rw [(fc.1 54 (by decide)).1]; exact c9 i
                  have eσ38_38 := fσ38.1 38 (by decide)
                  have eσ38_52 := fσ38.1 52 (by decide)
                  have eσ38_53 := fσ38.1 53 (by decide)
                  have eσ38_59 := fσ38.1 59 (by decide)
                  have jσ38 := fσ38.2.2.1
                  have obσ38 := Fr.ob fσ38 hja (by decide)
                  try simp only [forall_eq, rII, rIJ, rIP, rJJ, rJI, rJP, rPP, rPI, rPJ, g1, g2, g3, g4, g5, g6, g7, g8, Nat.reduceEqDiff, Nat.reduceAdd, false_and, and_false, true_and, and_true, reduceIte, nZ0, nZ1, eσ38_38.1, eσ38_38.2, eσ38_52.1, eσ38_52.2, eσ38_53.1, eσ38_53.2, eσ38_59.1, eσ38_59.2, fun a k => (jσ38 a k).1, fun a k => (jσ38 a k).2, obσ38]
                  split
                  · rename_i hc253
                    skip
                    unfold w_X16_taskTurn_275
                    try simp only [forall_eq, rII, rIJ, rIP, rJJ, rJI, rJP, rPP, rPI, rPJ, g1, g2, g3, g4, g5, g6, g7, g8, Nat.reduceEqDiff, Nat.reduceAdd, false_and, and_false, true_and, and_true, reduceIte, nZ0, nZ1, eσ38_38.1, eσ38_38.2, eσ38_52.1, eσ38_52.2, eσ38_53.1, eσ38_53.2, eσ38_59.1, eσ38_59.2, fun a k => (jσ38 a k).1, fun a k => (jσ38 a k).2, obσ38]
                    split
                    · rename_i hc278
                      skip
                      unfold w_X16_taskTurn_295
                      try simp only [forall_eq, rII, rIJ, rIP, rJJ, rJI, rJP, rPP, rPI, rPJ, g1, g2, g3, g4, g5, g6, g7, g8, Nat.reduceEqDiff, Nat.reduceAdd, false_and, and_false, true_and, and_true, reduceIte, nZ0, nZ1, eσ38_38.1, eσ38_38.2, eσ38_52.1, eσ38_52.2, eσ38_53.1, eσ38_53.2, eσ38_59.1, eσ38_59.2, fun a k => (jσ38 a k).1, fun a k => (jσ38 a k).2, obσ38]
                      refine s_X16_takeBarrier g rσ38 (by first | exact hj | (rw [fσ38.2.2.2]; exact hj)) hja r9 t9 e9 m9 (by (try simp only [rII, rIJ, rIP, rJJ, rJI, rJP, rPP, rPI, rPJ, g1, g2, g3, g4, g5, g6, g7, g8, Nat.reduceEqDiff, Nat.reduceAdd, false_and, and_false, true_and, and_true, reduceIte, nZ0, nZ1, eσ38_38.1, eσ38_38.2, eσ38_52.1, eσ38_52.2, eσ38_53.1, eσ38_53.2, eσ38_59.1, eσ38_59.2, fun a k => (jσ38 a k).1, fun a k => (jσ38 a k).2, obσ38]) <;> (first | omega | with_reducible assumption | (unfold rng; omega) | (unfold rng; (repeat' split) <;> omega))) (by (try simp only [rII, rIJ, rIP, rJJ, rJI, rJP, rPP, rPI, rPJ, g1, g2, g3, g4, g5, g6, g7, g8, Nat.reduceEqDiff, Nat.reduceAdd, false_and, and_false, true_and, and_true, reduceIte, nZ0, nZ1, eσ38_38.1, eσ38_38.2, eσ38_52.1, eσ38_52.2, eσ38_53.1, eσ38_53.2, eσ38_59.1, eσ38_59.2, fun a k => (jσ38 a k).1, fun a k => (jσ38 a k).2, obσ38]) <;> (first | omega | with_reducible assumption | (unfold rng; omega) | (unfold rng; (repeat' split) <;> omega))) (by (try simp only [rII, rIJ, rIP, rJJ, rJI, rJP, rPP, rPI, rPJ, g1, g2, g3, g4, g5, g6, g7, g8, Nat.reduceEqDiff, Nat.reduceAdd, false_and, and_false, true_and, and_true, reduceIte, nZ0, nZ1, eσ38_38.1, eσ38_38.2, eσ38_52.1, eσ38_52.2, eσ38_53.1, eσ38_53.2, eσ38_59.1, eσ38_59.2, fun a k => (jσ38 a k).1, fun a k => (jσ38 a k).2, obσ38]) <;> (first | omega | with_reducible assumption | (unfold rng; omega) | (unfold rng; (repeat' split) <;> omega))) (by (try simp only [rII, rIJ, rIP, rJJ, rJI, rJP, rPP, rPI, rPJ, g1, g2, g3, g4, g5, g6, g7, g8, Nat.reduceEqDiff, Nat.reduceAdd, false_and, and_false, true_and, and_true, reduceIte, nZ0, nZ1, eσ38_38.1, eσ38_38.2, eσ38_52.1, eσ38_52.2, eσ38_53.1, eσ38_53.2, eσ38_59.1, eσ38_59.2, fun a k => (jσ38 a k).1, fun a k => (jσ38 a k).2, obσ38]) <;> exact JobOK.fr (K := [20, 26, 40, 41, 42, 44, 45, 46, 47, 48, 49, 54, 55, 56, 57, 60, 61, 62, 63, 64, 65, 68, 69, 70, 71, 72, 73, 74, 75, 76, 77, 78, 81, 82, 83, 84, 85, 86, 87, 88, 89, 97, 98, 99, 100, 101, 102, 103, 104, 105, 106, 107, 108, 109]) (S := [21, 27, 32, 66, 67, 79, 80, 90, 91, 92, 93, 96, 113]) hjo hja (by repeat (first | exact Fr.rf | assumption | refine Fr.aJ g ?_ (by decide) | refine Fr.aI g ?_ (by decide) | refine Fr.sI g ?_ (by decide) | refine Fr.sJ g ?_ (by decide))) (by decide)) (by (try simp only [rII, rIJ, rIP, rJJ, rJI, rJP, rPP, rPI, rPJ, g1, g2, g3, g4, g5, g6, g7, g8, Nat.reduceEqDiff, Nat.reduceAdd, false_and, and_false, true_and, and_true, reduceIte, nZ0, nZ1, eσ38_38.1, eσ38_38.2, eσ38_52.1, eσ38_52.2, eσ38_53.1, eσ38_53.2, eσ38_59.1, eσ38_59.2, fun a k => (jσ38 a k).1, fun a k => (jσ38 a k).2, obσ38]) <;> exact hto) (fun σ39 _ rσ39 fc p12 => ?_) (fun σx E rx fx px => hX _ _ rx (Fr.tr fσ38 (Fr.mor (fx) (by decide) (by decide))) ⟨px.1, ⟨px.2.1, px.2.2.1, px.2.2.2.1, px.2.2.2.2⟩, LcI.fr l9 fx (by decide) (by decide), fun i => by rw [(fx.1 54 (by decide)).1]; exact c9 i⟩)
                      have fσ39 : Fr ra jx rm [20, 26, 40, 41, 42, 44, 45, 46, 47, 48, 49, 54, 55, 56, 57, 60, 61, 62, 63, 64, 65, 68, 69, 70, 71, 72, 73, 74, 75, 76, 77, 78, 81, 82, 83, 84, 85, 86, 87, 88, 89, 97, 98, 99, 100, 101, 102, 103, 104, 105, 106, 107, 108, 109] [21, 27, 32, 66, 67, 79, 80, 90, 91, 92, 93, 96, 113] σ σ39 := Fr.tr fσ38 (Fr.mor (fc) (by decide) (by decide))
                      have t8 := p12.1
                      have r8 := p12.2.1
                      have e8 := p12.2.2.1
                      have m8 := p12.2.2.2
                      have t9 := t8; have r9 := r8; have e9 := e8; have m9 := m8; clear t8 r8 e8 m8
                      have l9 := LcI.fr l9 fc (by decide) (by decide)
                      have c9 : ∀ i, gI σ39 (ra 54) i ≤ gI σ (ra 54) i := fun i => by rw [(fc.1 54 (by decide)).1]; exact c9 i
                      have eσ39_38 := fσ39.1 38 (by decide)
                      have eσ39_52 := fσ39.1 52 (by decide)
                      have eσ39_53 := fσ39.1 53 (by decide)
                      have eσ39_59 := fσ39.1 59 (by decide)
                      have jσ39 := fσ39.2.2.1
                      have obσ39 := Fr.ob fσ39 hja (by decide)
                      try simp only [forall_eq, rII, rIJ, rIP, rJJ, rJI, rJP, rPP, rPI, rPJ, g1, g2, g3, g4, g5, g6, g7, g8, Nat.reduceEqDiff, Nat.reduceAdd, false_and, and_false, true_and, and_true, reduceIte, nZ0, nZ1, eσ39_38.1, eσ39_38.2, eσ39_52.1, eσ39_52.2, eσ39_53.1, eσ39_53.2, eσ39_59.1, eσ39_59.2, fun a k => (jσ39 a k).1, fun a k => (jσ39 a k).2, obσ39]
                      unfold w_X16_taskTurn_304
                      try simp only [forall_eq, rII, rIJ, rIP, rJJ, rJI, rJP, rPP, rPI, rPJ, g1, g2, g3, g4, g5, g6, g7, g8, Nat.reduceEqDiff, Nat.reduceAdd, false_and, and_false, true_and, and_true, reduceIte, nZ0, nZ1, eσ39_38.1, eσ39_38.2, eσ39_52.1, eσ39_52.2, eσ39_53.1, eσ39_53.2, eσ39_59.1, eσ39_59.2, fun a k => (jσ39 a k).1, fun a k => (jσ39 a k).2, obσ39]
                      refine hQ _ _ ?_ ?_ ?_
                      · exact rσ39
                      · exact fσ39
                      · first | exact ⟨⟨t9, r9, e9, m9⟩, l9, c9⟩ | exact ⟨⟨t9, r9, e9, m9⟩, hlc, fun i => Int.le_refl _⟩
                    · rename_i hc278
                      skip
                      unfold w_X16_taskTurn_281
                      try simp only [forall_eq, rII, rIJ, rIP, rJJ, rJI, rJP, rPP, rPI, rPJ, g1, g2, g3, g4, g5, g6, g7, g8, Nat.reduceEqDiff, Nat.reduceAdd, false_and, and_false, true_and, and_true, reduceIte, nZ0, nZ1, eσ38_38.1, eσ38_38.2, eσ38_52.1, eσ38_52.2, eσ38_53.1, eσ38_53.2, eσ38_59.1, eσ38_59.2, fun a k => (jσ38 a k).1, fun a k => (jσ38 a k).2, obσ38]
                      refine s_X16_takeWatermark g rσ38 (by first | exact hj | (rw [fσ38.2.2.2]; exact hj)) hja r9 t9 (by (try simp only [rII, rIJ, rIP, rJJ, rJI, rJP, rPP, rPI, rPJ, g1, g2, g3, g4, g5, g6, g7, g8, Nat.reduceEqDiff, Nat.reduceAdd, false_and, and_false, true_and, and_true, reduceIte, nZ0, nZ1, eσ38_38.1, eσ38_38.2, eσ38_52.1, eσ38_52.2, eσ38_53.1, eσ38_53.2, eσ38_59.1, eσ38_59.2, fun a k => (jσ38 a k).1, fun a k => (jσ38 a k).2, obσ38]) <;> (first | omega | with_reducible assumption | (unfold rng; omega) | (unfold rng; (repeat' split) <;> omega))) (by (try simp only [rII, rIJ, rIP, rJJ, rJI, rJP, rPP, rPI, rPJ, g1, g2, g3, g4, g5, g6, g7, g8, Nat.reduceEqDiff, Nat.reduceAdd, false_and, and_false, true_and, and_true, reduceIte, nZ0, nZ1, eσ38_38.1, eσ38_38.2, eσ38_52.1, eσ38_52.2, eσ38_53.1, eσ38_53.2, eσ38_59.1, eσ38_59.2, fun a k => (jσ38 a k).1, fun a k => (jσ38 a k).2, obσ38]) <;> (first | omega | with_reducible assumption | (unfold rng; omega) | (unfold rng; (repeat' split) <;> omega))) (by exact rσ.2.2.2 61 _) (by (try simp only [rII, rIJ, rIP, rJJ, rJI, rJP, rPP, rPI, rPJ, g1, g2, g3, g4, g5, g6, g7, g8, Nat.reduceEqDiff, Nat.reduceAdd, false_and, and_false, true_and, and_true, reduceIte, nZ0, nZ1, eσ38_38.1, eσ38_38.2, eσ38_52.1, eσ38_52.2, eσ38_53.1, eσ38_53.2, eσ38_59.1, eσ38_59.2, fun a k => (jσ38 a k).1, fun a k => (jσ38 a k).2, obσ38]) <;> (first | omega | with_reducible assumption | (unfold rng; omega) | (unfold rng; (repeat' split) <;> omega))) (by (try simp only [rII, rIJ, rIP, rJJ, rJI, rJP, rPP, rPI, rPJ, g1, g2, g3, g4, g5, g6, g7, g8, Nat.reduceEqDiff, Nat.reduceAdd, false_and, and_false, true_and, and_true, reduceIte, nZ0, nZ1, eσ38_38.1, eσ38_38.2, eσ38_52.1, eσ38_52.2, eσ38_53.1, eσ38_53.2, eσ38_59.1, eσ38_59.2, fun a k => (jσ38 a k).1, fun a k => (jσ38 a k).2, obσ38]) <;> first | exact hp | (rw [(fσ38.2.1 33 (by decide)).1]; exact hp)) (by (try simp only [rII, rIJ, rIP, rJJ, rJI, rJP, rPP, rPI, rPJ, g1, g2, g3, g4, g5, g6, g7, g8, Nat.reduceEqDiff, Nat.reduceAdd, false_and, and_false, true_and, and_true, reduceIte, nZ0, nZ1, eσ38_38.1, eσ38_38.2, eσ38_52.1, eσ38_52.2, eσ38_53.1, eσ38_53.2, eσ38_59.1, eσ38_59.2, fun a k => (jσ38 a k).1, fun a k => (jσ38 a k).2, obσ38]) <;> exact JobOK.fr (K := [20, 26, 40, 41, 42, 44, 45, 46, 47, 48, 49, 54, 55, 56, 57, 60, 61, 62, 63, 64, 65, 68, 69, 70, 71, 72, 73, 74, 75, 76, 77, 78, 81, 82, 83, 84, 85, 86, 87, 88, 89, 97, 98, 99, 100, 101, 102, 103, 104, 105, 106, 107, 108, 109]) (S := [21, 27, 32, 66, 67, 79, 80, 90, 91, 92, 93, 96, 113]) hjo hja (by repeat (first | exact Fr.rf | assumption | refine Fr.aJ g ?_ (by decide) | refine Fr.aI g ?_ (by decide) | refine Fr.sI g ?_ (by decide) | refine Fr.sJ g ?_ (by decide))) (by decide)) (by (try simp only [rII, rIJ, rIP, rJJ, rJI, rJP, rPP, rPI, rPJ, g1, g2, g3, g4, g5, g6, g7, g8, Nat.reduceEqDiff, Nat.reduceAdd, false_and, and_false, true_and, and_true, reduceIte, nZ0, nZ1, eσ38_38.1, eσ38_38.2, eσ38_52.1, eσ38_52.2, eσ38_53.1, eσ38_53.2, eσ38_59.1, eσ38_59.2, fun a k => (jσ38 a k).1, fun a k => (jσ38 a k).2, obσ38]) <;> exact hto) (fun σ40 _ rσ40 fc p13 => ?_) (fun σx E rx fx px => hX _ _ rx (Fr.tr fσ38 (Fr.mor (fx) (by decide) (by decide))) ⟨px.1, ⟨px.2.1, px.2.2, HeE.fr e9 fx (by decide) (by decide), MkI.fr m9 fx (by decide)⟩, LcI.fr l9 fx (by decide) (by decide), fun i => by rw [(fx.1 54 (by decide)).1]; exact c9 i⟩)
                      have fσ40 : Fr ra jx rm [20, 26, 40, 41, 42, 44, 45, 46, 47, 48, 49, 54, 55, 56, 57, 60, 61, 62, 63, 64, 65, 68, 69, 70, 71, 72, 73, 74, 75, 76, 77, 78, 81, 82, 83, 84, 85, 86, 87, 88, 89, 97, 98, 99, 100, 101, 102, 103, 104, 105, 106, 107, 108, 109] [21, 27, 32, 66, 67, 79, 80, 90, 91, 92, 93, 96, 113] σ σ40 := Fr.tr fσ38 (Fr.mor (fc) (by decide) (by decide))
                      have t8 := p13.2
                      have r8 := p13.1
                      have e8 := HeE.fr e9 fc (by decide) (by decide)
                      have m8 := MkI.fr m9 fc (by decide)
                      have t9 := t8; have r9 := r8; have e9 := e8; have m9 := m8; clear t8 r8 e8 m8
                      have l9 := LcI.fr l9 fc (by decide) (by decide)
                      have c9 : ∀ i, gI σ40 (ra 54) i ≤ gI σ (ra 54) i := fun i => by rw [(fc.1 54 (by decide)).1]; exact c9 i
                      have eσ40_38 := fσ40.1 38 (by decide)
                      have eσ40_52 := fσ40.1 52 (by decide)
                      have eσ40_53 := fσ40.1 53 (by decide)
                      have eσ40_59 := fσ40.1 59 (by decide)
                      have jσ40 := fσ40.2.2.1
                      have obσ40 := Fr.ob fσ40 hja (by decide)
                      try simp only [forall_eq, rII, rIJ, rIP, rJJ, rJI, rJP, rPP, rPI, rPJ, g1, g2, g3, g4, g5, g6, g7, g8, Nat.reduceEqDiff, Nat.reduceAdd, false_and, and_false, true_and, and_true, reduceIte, nZ0, nZ1, eσ40_38.1, eσ40_38.2, eσ40_52.1, eσ40_52.2, eσ40_53.1, eσ40_53.2, eσ40_59.1, eσ40_59.2, fun a k => (jσ40 a k).1, fun a k => (jσ40 a k).2, obσ40]
                      unfold w_X16_taskTurn_304
                      try simp only [forall_eq, rII, rIJ, rIP, rJJ, rJI, rJP, rPP, rPI, rPJ, g1, g2, g3, g4, g5, g6, g7, g8, Nat.reduceEqDiff, Nat.reduceAdd, false_and, and_false, true_and, and_true, reduceIte, nZ0, nZ1, eσ40_38.1, eσ40_38.2, eσ40_52.1, eσ40_52.2, eσ40_53.1, eσ40_53.2, eσ40_59.1, eσ40_59.2, fun a k => (jσ40 a k).1, fun a k => (jσ40 a k).2, obσ40]
                      refine hQ _ _ ?_ ?_ ?_
                      · exact rσ40
                      · exact fσ40
                      · first | exact ⟨⟨t9, r9, e9, m9⟩, l9, c9⟩ | exact ⟨⟨t9, r9, e9, m9⟩, hlc, fun i => Int.le_refl _⟩
                  · rename_i hc253
                    skip
                    unfold w_X16_taskTurn_256
                    try simp only [forall_eq, rII, rIJ, rIP, rJJ, rJI, rJP, rPP, rPI, rPJ, g1, g2, g3, g4, g5, g6, g7, g8, Nat.reduceEqDiff, Nat.reduceAdd, false_and, and_false, true_and, and_true, reduceIte, nZ0, nZ1, eσ38_38.1, eσ38_38.2, eσ38_52.1, eσ38_52.2, eσ38_53.1, eσ38_53.2, eσ38_59.1, eσ38_59.2, fun a k => (jσ38 a k).1, fun a k => (jσ38 a k).2, obσ38]
                    refine ⟨by (first | omega | with_reducible assumption | (unfold rng; omega) | (unfold rng; (repeat' split) <;> omega)), ?_⟩
                    have q14 := rσ.1 53 (v5.toNat); simp only [rgT] at q14
                    refine s_X16_takeRow g rσ38 (by first | exact hj | (rw [fσ38.2.2.2]; exact hj)) hja r9 t9 e9 (by (try simp only [rII, rIJ, rIP, rJJ, rJI, rJP, rPP, rPI, rPJ, g1, g2, g3, g4, g5, g6, g7, g8, Nat.reduceEqDiff, Nat.reduceAdd, false_and, and_false, true_and, and_true, reduceIte, nZ0, nZ1, eσ38_38.1, eσ38_38.2, eσ38_52.1, eσ38_52.2, eσ38_53.1, eσ38_53.2, eσ38_59.1, eσ38_59.2, fun a k => (jσ38 a k).1, fun a k => (jσ38 a k).2, obσ38]) <;> (first | omega | with_reducible assumption | (unfold rng; omega) | (unfold rng; (repeat' split) <;> omega))) (by (try simp only [rII, rIJ, rIP, rJJ, rJI, rJP, rPP, rPI, rPJ, g1, g2, g3, g4, g5, g6, g7, g8, Nat.reduceEqDiff, Nat.reduceAdd, false_and, and_false, true_and, and_true, reduceIte, nZ0, nZ1, eσ38_38.1, eσ38_38.2, eσ38_52.1, eσ38_52.2, eσ38_53.1, eσ38_53.2, eσ38_59.1, eσ38_59.2, fun a k => (jσ38 a k).1, fun a k => (jσ38 a k).2, obσ38]) <;> (first | omega | with_reducible assumption | (unfold rng; omega) | (unfold rng; (repeat' split) <;> omega))) (by exact rσ.2.2.2 61 _) (by (try simp only [rII, rIJ, rIP, rJJ, rJI, rJP, rPP, rPI, rPJ, g1, g2, g3, g4, g5, g6, g7, g8, Nat.reduceEqDiff, Nat.reduceAdd, false_and, and_false, true_and, and_true, reduceIte, nZ0, nZ1, eσ38_38.1, eσ38_38.2, eσ38_52.1, eσ38_52.2, eσ38_53.1, eσ38_53.2, eσ38_59.1, eσ38_59.2, fun a k => (jσ38 a k).1, fun a k => (jσ38 a k).2, obσ38]) <;> (first | omega | with_reducible assumption | (unfold rng; omega) | (unfold rng; (repeat' split) <;> omega))) (by (try simp only [rII, rIJ, rIP, rJJ, rJI, rJP, rPP, rPI, rPJ, g1, g2, g3, g4, g5, g6, g7, g8, Nat.reduceEqDiff, Nat.reduceAdd, false_and, and_false, true_and, and_true, reduceIte, nZ0, nZ1, eσ38_38.1, eσ38_38.2, eσ38_52.1, eσ38_52.2, eσ38_53.1, eσ38_53.2, eσ38_59.1, eσ38_59.2, fun a k => (jσ38 a k).1, fun a k => (jσ38 a k).2, obσ38]) <;> first | exact hp | (rw [(fσ38.2.1 33 (by decide)).1]; exact hp)) (by (try simp only [rII, rIJ, rIP, rJJ, rJI, rJP, rPP, rPI, rPJ, g1, g2, g3, g4, g5, g6, g7, g8, Nat.reduceEqDiff, Nat.reduceAdd, false_and, and_false, true_and, and_true, reduceIte, nZ0, nZ1, eσ38_38.1, eσ38_38.2, eσ38_52.1, eσ38_52.2, eσ38_53.1, eσ38_53.2, eσ38_59.1, eσ38_59.2, fun a k => (jσ38 a k).1, fun a k => (jσ38 a k).2, obσ38]) <;> exact JobOK.fr (K := [20, 26, 40, 41, 42, 44, 45, 46, 47, 48, 49, 54, 55, 56, 57, 60, 61, 62, 63, 64, 65, 68, 69, 70, 71, 72, 73, 74, 75, 76, 77, 78, 81, 82, 83, 84, 85, 86, 87, 88, 89, 97, 98, 99, 100, 101, 102, 103, 104, 105, 106, 107, 108, 109]) (S := [21, 27, 32, 66, 67, 79, 80, 90, 91, 92, 93, 96, 113]) hjo hja (by repeat (first | exact Fr.rf | assumption | refine Fr.aJ g ?_ (by decide) | refine Fr.aI g ?_ (by decide) | refine Fr.sI g ?_ (by decide) | refine Fr.sJ g ?_ (by decide))) (by decide)) (by (try simp only [rII, rIJ, rIP, rJJ, rJI, rJP, rPP, rPI, rPJ, g1, g2, g3, g4, g5, g6, g7, g8, Nat.reduceEqDiff, Nat.reduceAdd, false_and, and_false, true_and, and_true, reduceIte, nZ0, nZ1, eσ38_38.1, eσ38_38.2, eσ38_52.1, eσ38_52.2, eσ38_53.1, eσ38_53.2, eσ38_59.1, eσ38_59.2, fun a k => (jσ38 a k).1, fun a k => (jσ38 a k).2, obσ38]) <;> exact hto) (by (try simp only [rII, rIJ, rIP, rJJ, rJI, rJP, rPP, rPI, rPJ, g1, g2, g3, g4, g5, g6, g7, g8, Nat.reduceEqDiff, Nat.reduceAdd, false_and, and_false, true_and, and_true, reduceIte, nZ0, nZ1, eσ38_38.1, eσ38_38.2, eσ38_52.1, eσ38_52.2, eσ38_53.1, eσ38_53.2, eσ38_59.1, eσ38_59.2, fun a k => (jσ38 a k).1, fun a k => (jσ38 a k).2, obσ38]) <;> exact hcy) (by (try simp only [rII, rIJ, rIP, rJJ, rJI, rJP, rPP, rPI, rPJ, g1, g2, g3, g4, g5, g6, g7, g8, Nat.reduceEqDiff, Nat.reduceAdd, false_and, and_false, true_and, and_true, reduceIte, nZ0, nZ1, eσ38_38.1, eσ38_38.2, eσ38_52.1, eσ38_52.2, eσ38_53.1, eσ38_53.2, eσ38_59.1, eσ38_59.2, fun a k => (jσ38 a k).1, fun a k => (jσ38 a k).2, obσ38]) <;> exact hns) (fun σ41 _ rσ41 fc p15 => ?_) (fun σx E rx fx px => hX _ _ rx (Fr.tr fσ38 (Fr.mor (fx) (by decide) (by decide))) ⟨px.1, ⟨px.2.1, px.2.2.1, px.2.2.2, MkI.fr m9 fx (by decide)⟩, LcI.fr l9 fx (by decide) (by decide), fun i => by rw [(fx.1 54 (by decide)).1]; exact c9 i⟩)
                    have fσ41 : Fr ra jx rm [20, 26, 40, 41, 42, 44, 45, 46, 47, 48, 49, 54, 55, 56, 57, 60, 61, 62, 63, 64, 65, 68, 69, 70, 71, 72, 73, 74, 75, 76, 77, 78, 81, 82, 83, 84, 85, 86, 87, 88, 89, 97, 98, 99, 100, 101, 102, 103, 104, 105, 106, 107, 108, 109] [21, 27, 32, 66, 67, 79, 80, 90, 91, 92, 93, 96, 113] σ σ41 := Fr.tr fσ38 (Fr.mor (fc) (by decide) (by decide))
                    have t8 := p15.1
                    have r8 := p15.2.1
                    have e8 := p15.2.2
                    have m8 := MkI.fr m9 fc (by decide)
                    have t9 := t8; have r9 := r8; have e9 := e8; have m9 := m8; clear t8 r8 e8 m8
                    have l9 := LcI.fr l9 fc (by decide) (by decide)
                    have c9 : ∀ i, gI σ41 (ra 54) i ≤ gI σ (ra 54) i := fun i => by rw [(fc.1 54 (by decide)).1]; exact c9 i
                    have eσ41_38 := fσ41.1 38 (by decide)
                    have eσ41_52 := fσ41.1 52 (by decide)
                    have eσ41_53 := fσ41.1 53 (by decide)
                    have eσ41_59 := fσ41.1 59 (by decide)
                    have jσ41 := fσ41.2.2.1
                    have obσ41 := Fr.ob fσ41 hja (by decide)
                    try simp only [forall_eq, rII, rIJ, rIP, rJJ, rJI, rJP, rPP, rPI, rPJ, g1, g2, g3, g4, g5, g6, g7, g8, Nat.reduceEqDiff, Nat.reduceAdd, false_and, and_false, true_and, and_true, reduceIte, nZ0, nZ1, eσ41_38.1, eσ41_38.2, eσ41_52.1, eσ41_52.2, eσ41_53.1, eσ41_53.2, eσ41_59.1, eσ41_59.2, fun a k => (jσ41 a k).1, fun a k => (jσ41 a k).2, obσ41]
                    unfold w_X16_taskTurn_304
                    try simp only [forall_eq, rII, rIJ, rIP, rJJ, rJI, rJP, rPP, rPI, rPJ, g1, g2, g3, g4, g5, g6, g7, g8, Nat.reduceEqDiff, Nat.reduceAdd, false_and, and_false, true_and, and_true, reduceIte, nZ0, nZ1, eσ41_38.1, eσ41_38.2, eσ41_52.1, eσ41_52.2, eσ41_53.1, eσ41_53.2, eσ41_59.1, eσ41_59.2, fun a k => (jσ41 a k).1, fun a k => (jσ41 a k).2, obσ41]
                    refine hQ _ _ ?_ ?_ ?_
                    · exact rσ41
                    · exact fσ41
                    · first | exact ⟨⟨t9, r9, e9, m9⟩, l9, c9⟩ | exact ⟨⟨t9, r9, e9, m9⟩, hlc, fun i => Int.le_refl _⟩
                · rename_i hc216
                  skip
                  unfold w_X16_taskTurn_219
                  try simp only [forall_eq, rII, rIJ, rIP, rJJ, rJI, rJP, rPP, rPI, rPJ, g1, g2, g3, g4, g5, g6, g7, g8, Nat.reduceEqDiff, Nat.reduceAdd, false_and, and_false, true_and, and_true, reduceIte, nZ0, nZ1, eτ212_38.1, eτ212_38.2, eτ212_52.1, eτ212_52.2, eτ212_53.1, eτ212_53.2, eτ212_59.1, eτ212_59.2, fun a k => (jτ212 a k).1, fun a k => (jτ212 a k).2, obτ212]
                  refine ⟨by (first | omega | with_reducible assumption | (unfold rng; omega) | (unfold rng; (repeat' split) <;> omega)), ?_⟩
                  refine ⟨by (first | omega | with_reducible assumption | (unfold rng; omega) | (unfold rng; (repeat' split) <;> omega)), ?_⟩
                  refine ⟨by (first | omega | with_reducible assumption | (unfold rng; omega) | (unfold rng; (repeat' split) <;> omega)), ?_⟩
                  refine ⟨by (first | omega | with_reducible assumption | (unfold rng; omega) | (unfold rng; (repeat' split) <;> omega)), ?_⟩
                  refine ⟨by (first | omega | with_reducible assumption | (unfold rng; omega) | (unfold rng; (repeat' split) <;> omega)), ?_⟩
                  refine ih212 _ _ ?_ ?_ ?_ ?_
                  · refine Rg.aJ g ?_ (by simp only [rlT]; first | with_reducible assumption | omega | exact Int64.toInt_le _ | (rw [Int64.toInt_ofInt_of_le (by omega) (by omega)]; omega) | grind); exact rτ212
                  · refine Fr.aJ g ?_ (by decide); exact fτ212
                  · first | exact ⟨ThH.fr (jx := jx) (K := [81]) (S := []) h9 (by repeat (first | exact Fr.rf | assumption | refine Fr.aJ g ?_ (by decide) | refine Fr.aI g ?_ (by decide) | refine Fr.sI g ?_ (by decide) | refine Fr.sJ g ?_ (by decide))) (by decide) (by decide), ⟨RecE.fr (K := [81]) (S := []) r9 (by repeat (first | exact Fr.rf | assumption | refine Fr.aJ g ?_ (by decide) | refine Fr.aI g ?_ (by decide) | refine Fr.sI g ?_ (by decide) | refine Fr.sJ g ?_ (by decide))) (by decide) (by decide), HeE.fr (jx := jx) (K := [81]) (S := []) e9 (by repeat (first | exact Fr.rf | assumption | refine Fr.aJ g ?_ (by decide) | refine Fr.aI g ?_ (by decide) | refine Fr.sI g ?_ (by decide) | refine Fr.sJ g ?_ (by decide))) (by decide) (by decide), MkI.fr (rm := rm) (K := [81]) (S := []) m9 (by repeat (first | exact Fr.rf | assumption | refine Fr.aJ g ?_ (by decide) | refine Fr.aI g ?_ (by decide) | refine Fr.sI g ?_ (by decide) | refine Fr.sJ g ?_ (by decide))) (by decide)⟩, LcI.fr (jx := jx) (K := [81]) (S := []) l9 (by repeat (first | exact Fr.rf | assumption | refine Fr.aJ g ?_ (by decide) | refine Fr.aI g ?_ (by decide) | refine Fr.sI g ?_ (by decide) | refine Fr.sJ g ?_ (by decide))) (by decide) (by decide), fun i => by (try simp only [rII, rIJ, rIP, rJJ, rJI, rJP, rPP, rPI, rPJ, g1, g2, g3, g4, g5, g6, g7, g8, Nat.reduceEqDiff, Nat.reduceAdd, false_and, and_false, true_and, and_true, reduceIte, nZ0, nZ1, eτ212_38.1, eτ212_38.2, eτ212_52.1, eτ212_52.2, eτ212_53.1, eτ212_53.2, eτ212_59.1, eτ212_59.2, fun a k => (jτ212 a k).1, fun a k => (jτ212 a k).2, obτ212]) <;> exact c9 i, by omega, by omega⟩ | exact ⟨(hti.take (c := v5) (by omega) (by omega) (by omega) (by intros; (try simp only [rII, rIJ, rIP, rJJ, rJI, rJP, rPP, rPI, rPJ, g1, g2, g3, g4, g5, g6, g7, g8, Nat.reduceEqDiff, Nat.reduceAdd, false_and, and_false, true_and, and_true, reduceIte, nZ0, nZ1, eτ212_38.1, eτ212_38.2, eτ212_52.1, eτ212_52.2, eτ212_53.1, eτ212_53.2, eτ212_59.1, eτ212_59.2, fun a k => (jτ212 a k).1, fun a k => (jτ212 a k).2, obτ212]) <;> (repeat' split) <;> first | rfl | omega | grind) (by intros; (try simp only [rII, rIJ, rIP, rJJ, rJI, rJP, rPP, rPI, rPJ, g1, g2, g3, g4, g5, g6, g7, g8, Nat.reduceEqDiff, Nat.reduceAdd, false_and, and_false, true_and, and_true, reduceIte, nZ0, nZ1, eτ212_38.1, eτ212_38.2, eτ212_52.1, eτ212_52.2, eτ212_53.1, eτ212_53.2, eτ212_59.1, eτ212_59.2, fun a k => (jτ212 a k).1, fun a k => (jτ212 a k).2, obτ212]) <;> (repeat' split) <;> first | rfl | omega | grind) (by intros; (try simp only [rII, rIJ, rIP, rJJ, rJI, rJP, rPP, rPI, rPJ, g1, g2, g3, g4, g5, g6, g7, g8, Nat.reduceEqDiff, Nat.reduceAdd, false_and, and_false, true_and, and_true, reduceIte, nZ0, nZ1, eτ212_38.1, eτ212_38.2, eτ212_52.1, eτ212_52.2, eτ212_53.1, eτ212_53.2, eτ212_59.1, eτ212_59.2, fun a k => (jτ212 a k).1, fun a k => (jτ212 a k).2, obτ212]) <;> (repeat' split) <;> first | rfl | omega | grind) (by intros; (try simp only [rII, rIJ, rIP, rJJ, rJI, rJP, rPP, rPI, rPJ, g1, g2, g3, g4, g5, g6, g7, g8, Nat.reduceEqDiff, Nat.reduceAdd, false_and, and_false, true_and, and_true, reduceIte, nZ0, nZ1, eτ212_38.1, eτ212_38.2, eτ212_52.1, eτ212_52.2, eτ212_53.1, eτ212_53.2, eτ212_59.1, eτ212_59.2, fun a k => (jτ212 a k).1, fun a k => (jτ212 a k).2, obτ212]) <;> (repeat' split) <;> first | rfl | omega | grind) (by intros; (try simp only [rII, rIJ, rIP, rJJ, rJI, rJP, rPP, rPI, rPJ, g1, g2, g3, g4, g5, g6, g7, g8, Nat.reduceEqDiff, Nat.reduceAdd, false_and, and_false, true_and, and_true, reduceIte, nZ0, nZ1, eτ212_38.1, eτ212_38.2, eτ212_52.1, eτ212_52.2, eτ212_53.1, eτ212_53.2, eτ212_59.1, eτ212_59.2, fun a k => (jτ212 a k).1, fun a k => (jτ212 a k).2, obτ212]) <;> (repeat' split) <;> first | rfl | omega | grind) (by intros; (try simp only [rII, rIJ, rIP, rJJ, rJI, rJP, rPP, rPI, rPJ, g1, g2, g3, g4, g5, g6, g7, g8, Nat.reduceEqDiff, Nat.reduceAdd, false_and, and_false, true_and, and_true, reduceIte, nZ0, nZ1, eτ212_38.1, eτ212_38.2, eτ212_52.1, eτ212_52.2, eτ212_53.1, eτ212_53.2, eτ212_59.1, eτ212_59.2, fun a k => (jτ212 a k).1, fun a k => (jτ212 a k).2, obτ212]) <;> (repeat' split) <;> first | rfl | omega | grind) (by intros; (try simp only [rII, rIJ, rIP, rJJ, rJI, rJP, rPP, rPI, rPJ, g1, g2, g3, g4, g5, g6, g7, g8, Nat.reduceEqDiff, Nat.reduceAdd, false_and, and_false, true_and, and_true, reduceIte, nZ0, nZ1, eτ212_38.1, eτ212_38.2, eτ212_52.1, eτ212_52.2, eτ212_53.1, eτ212_53.2, eτ212_59.1, eτ212_59.2, fun a k => (jτ212 a k).1, fun a k => (jτ212 a k).2, obτ212]) <;> (repeat' split) <;> first | rfl | omega | grind) (by intros; (try simp only [rII, rIJ, rIP, rJJ, rJI, rJP, rPP, rPI, rPJ, g1, g2, g3, g4, g5, g6, g7, g8, Nat.reduceEqDiff, Nat.reduceAdd, false_and, and_false, true_and, and_true, reduceIte, nZ0, nZ1, eτ212_38.1, eτ212_38.2, eτ212_52.1, eτ212_52.2, eτ212_53.1, eτ212_53.2, eτ212_59.1, eτ212_59.2, fun a k => (jτ212 a k).1, fun a k => (jτ212 a k).2, obτ212]) <;> (repeat' split) <;> first | rfl | omega | grind)).1, ⟨RecE.fr (K := [41, 45, 54, 55]) (S := [113]) r9 (by repeat (first | exact Fr.rf | assumption | refine Fr.aJ g ?_ (by decide) | refine Fr.aI g ?_ (by decide) | refine Fr.sI g ?_ (by decide) | refine Fr.sJ g ?_ (by decide))) (by decide) (by decide), HeE.fr (jx := jx) (K := [41, 45, 54, 55]) (S := [113]) e9 (by repeat (first | exact Fr.rf | assumption | refine Fr.aJ g ?_ (by decide) | refine Fr.aI g ?_ (by decide) | refine Fr.sI g ?_ (by decide) | refine Fr.sJ g ?_ (by decide))) (by decide) (by decide), MkI.fr (rm := rm) (K := [41, 45, 54, 55]) (S := [113]) m9 (by repeat (first | exact Fr.rf | assumption | refine Fr.aJ g ?_ (by decide) | refine Fr.aI g ?_ (by decide) | refine Fr.sI g ?_ (by decide) | refine Fr.sJ g ?_ (by decide))) (by decide)⟩, LcI.up hlc (t := v1) (c := v5) (by omega) ⟨by omega, hin.1⟩ hin.2 (by intros; (try simp only [rII, rIJ, rIP, rJJ, rJI, rJP, rPP, rPI, rPJ, g1, g2, g3, g4, g5, g6, g7, g8, Nat.reduceEqDiff, Nat.reduceAdd, false_and, and_false, true_and, and_true, reduceIte, nZ0, nZ1, eτ212_38.1, eτ212_38.2, eτ212_52.1, eτ212_52.2, eτ212_53.1, eτ212_53.2, eτ212_59.1, eτ212_59.2, fun a k => (jτ212 a k).1, fun a k => (jτ212 a k).2, obτ212]) <;> (repeat' split) <;> first | rfl | omega | grind) (by funext a9; (try simp only [rII, rIJ, rIP, rJJ, rJI, rJP, rPP, rPI, rPJ, g1, g2, g3, g4, g5, g6, g7, g8, Nat.reduceEqDiff, Nat.reduceAdd, false_and, and_false, true_and, and_true, reduceIte, nZ0, nZ1, eτ212_38.1, eτ212_38.2, eτ212_52.1, eτ212_52.2, eτ212_53.1, eτ212_53.2, eτ212_59.1, eτ212_59.2, fun a k => (jτ212 a k).1, fun a k => (jτ212 a k).2, obτ212]) <;> first | rfl | omega | grind) (by intros; (try simp only [rII, rIJ, rIP, rJJ, rJI, rJP, rPP, rPI, rPJ, g1, g2, g3, g4, g5, g6, g7, g8, Nat.reduceEqDiff, Nat.reduceAdd, false_and, and_false, true_and, and_true, reduceIte, nZ0, nZ1, eτ212_38.1, eτ212_38.2, eτ212_52.1, eτ212_52.2, eτ212_53.1, eτ212_53.2, eτ212_59.1, eτ212_59.2, fun a k => (jτ212 a k).1, fun a k => (jτ212 a k).2, obτ212]) <;> (repeat' split) <;> first | rfl | omega | grind), (by intros; (try simp only [rII, rIJ, rIP, rJJ, rJI, rJP, rPP, rPI, rPJ, g1, g2, g3, g4, g5, g6, g7, g8, Nat.reduceEqDiff, Nat.reduceAdd, false_and, and_false, true_and, and_true, reduceIte, nZ0, nZ1, eτ212_38.1, eτ212_38.2, eτ212_52.1, eτ212_52.2, eτ212_53.1, eτ212_53.2, eτ212_59.1, eτ212_59.2, fun a k => (jτ212 a k).1, fun a k => (jτ212 a k).2, obτ212]) <;> (repeat' split) <;> first | rfl | omega | grind), by omega, by omega⟩
                  · (try simp only [rII, rIJ, rIP, rJJ, rJI, rJP, rPP, rPI, rPJ, g1, g2, g3, g4, g5, g6, g7, g8, Nat.reduceEqDiff, Nat.reduceAdd, false_and, and_false, true_and, and_true, reduceIte, nZ0, nZ1, eτ212_38.1, eτ212_38.2, eτ212_52.1, eτ212_52.2, eτ212_53.1, eτ212_53.2, eτ212_59.1, eτ212_59.2, fun a k => (jτ212 a k).1, fun a k => (jτ212 a k).2, obτ212]) <;> (first | omega | with_reducible assumption | (unfold rng; omega) | (unfold rng; (repeat' split) <;> omega))
            refine ⟨_, L212 _ _ _ ?_ ?_ ?_ (Nat.lt_succ_self _)⟩
            · refine Rg.sI g ?_ (by simp only [rgS]; first | with_reducible exact nZ_rng _ | with_reducible exact nB_rng _ | with_reducible exact wr_rng _ | with_reducible exact i32any _ | (first | omega | with_reducible assumption | (unfold rng; omega) | (unfold rng; (repeat' split) <;> omega))); refine Rg.aI g ?_ (by simp only [rgT]; first | with_reducible exact nZ_rng _ | with_reducible exact nB_rng _ | with_reducible exact wr_rng _ | with_reducible exact i32any _ | (first | omega | with_reducible assumption | (unfold rng; omega) | (unfold rng; (repeat' split) <;> omega))); refine Rg.aI g ?_ (by simp only [rgT]; first | with_reducible exact nZ_rng _ | with_reducible exact nB_rng _ | with_reducible exact wr_rng _ | with_reducible exact i32any _ | (first | omega | with_reducible assumption | (unfold rng; omega) | (unfold rng; (repeat' split) <;> omega))); refine Rg.aI g ?_ (by simp only [rgT]; first | with_reducible exact nZ_rng _ | with_reducible exact nB_rng _ | with_reducible exact wr_rng _ | with_reducible exact i32any _ | (first | omega | with_reducible assumption | (unfold rng; omega) | (unfold rng; (repeat' split) <;> omega))); refine Rg.aI g ?_ (by simp only [rgT]; first | with_reducible exact nZ_rng _ | with_reducible exact nB_rng _ | with_reducible exact wr_rng _ | with_reducible exact i32any _ | (first | omega | with_reducible assumption | (unfold rng; omega) | (unfold rng; (repeat' split) <;> omega))); exact rσ
            · refine Fr.sI g ?_ (by decide); refine Fr.aI g ?_ (by decide); refine Fr.aI g ?_ (by decide); refine Fr.aI g ?_ (by decide); refine Fr.aI g ?_ (by decide); exact fσ
            · first | exact ⟨ThH.fr (jx := jx) (K := [81]) (S := []) h9 (by repeat (first | exact Fr.rf | assumption | refine Fr.aJ g ?_ (by decide) | refine Fr.aI g ?_ (by decide) | refine Fr.sI g ?_ (by decide) | refine Fr.sJ g ?_ (by decide))) (by decide) (by decide), ⟨RecE.fr (K := [81]) (S := []) r9 (by repeat (first | exact Fr.rf | assumption | refine Fr.aJ g ?_ (by decide) | refine Fr.aI g ?_ (by decide) | refine Fr.sI g ?_ (by decide) | refine Fr.sJ g ?_ (by decide))) (by decide) (by decide), HeE.fr (jx := jx) (K := [81]) (S := []) e9 (by repeat (first | exact Fr.rf | assumption | refine Fr.aJ g ?_ (by decide) | refine Fr.aI g ?_ (by decide) | refine Fr.sI g ?_ (by decide) | refine Fr.sJ g ?_ (by decide))) (by decide) (by decide), MkI.fr (rm := rm) (K := [81]) (S := []) m9 (by repeat (first | exact Fr.rf | assumption | refine Fr.aJ g ?_ (by decide) | refine Fr.aI g ?_ (by decide) | refine Fr.sI g ?_ (by decide) | refine Fr.sJ g ?_ (by decide))) (by decide)⟩, LcI.fr (jx := jx) (K := [81]) (S := []) l9 (by repeat (first | exact Fr.rf | assumption | refine Fr.aJ g ?_ (by decide) | refine Fr.aI g ?_ (by decide) | refine Fr.sI g ?_ (by decide) | refine Fr.sJ g ?_ (by decide))) (by decide) (by decide), fun i => by (try simp only [rII, rIJ, rIP, rJJ, rJI, rJP, rPP, rPI, rPJ, g1, g2, g3, g4, g5, g6, g7, g8, Nat.reduceEqDiff, Nat.reduceAdd, false_and, and_false, true_and, and_true, reduceIte, nZ0, nZ1]) <;> exact c9 i, by omega, by omega⟩ | exact ⟨(hti.take (c := v5) (by omega) (by omega) (by omega) (by intros; (try simp only [rII, rIJ, rIP, rJJ, rJI, rJP, rPP, rPI, rPJ, g1, g2, g3, g4, g5, g6, g7, g8, Nat.reduceEqDiff, Nat.reduceAdd, false_and, and_false, true_and, and_true, reduceIte, nZ0, nZ1]) <;> (repeat' split) <;> first | rfl | omega | grind) (by intros; (try simp only [rII, rIJ, rIP, rJJ, rJI, rJP, rPP, rPI, rPJ, g1, g2, g3, g4, g5, g6, g7, g8, Nat.reduceEqDiff, Nat.reduceAdd, false_and, and_false, true_and, and_true, reduceIte, nZ0, nZ1]) <;> (repeat' split) <;> first | rfl | omega | grind) (by intros; (try simp only [rII, rIJ, rIP, rJJ, rJI, rJP, rPP, rPI, rPJ, g1, g2, g3, g4, g5, g6, g7, g8, Nat.reduceEqDiff, Nat.reduceAdd, false_and, and_false, true_and, and_true, reduceIte, nZ0, nZ1]) <;> (repeat' split) <;> first | rfl | omega | grind) (by intros; (try simp only [rII, rIJ, rIP, rJJ, rJI, rJP, rPP, rPI, rPJ, g1, g2, g3, g4, g5, g6, g7, g8, Nat.reduceEqDiff, Nat.reduceAdd, false_and, and_false, true_and, and_true, reduceIte, nZ0, nZ1]) <;> (repeat' split) <;> first | rfl | omega | grind) (by intros; (try simp only [rII, rIJ, rIP, rJJ, rJI, rJP, rPP, rPI, rPJ, g1, g2, g3, g4, g5, g6, g7, g8, Nat.reduceEqDiff, Nat.reduceAdd, false_and, and_false, true_and, and_true, reduceIte, nZ0, nZ1]) <;> (repeat' split) <;> first | rfl | omega | grind) (by intros; (try simp only [rII, rIJ, rIP, rJJ, rJI, rJP, rPP, rPI, rPJ, g1, g2, g3, g4, g5, g6, g7, g8, Nat.reduceEqDiff, Nat.reduceAdd, false_and, and_false, true_and, and_true, reduceIte, nZ0, nZ1]) <;> (repeat' split) <;> first | rfl | omega | grind) (by intros; (try simp only [rII, rIJ, rIP, rJJ, rJI, rJP, rPP, rPI, rPJ, g1, g2, g3, g4, g5, g6, g7, g8, Nat.reduceEqDiff, Nat.reduceAdd, false_and, and_false, true_and, and_true, reduceIte, nZ0, nZ1]) <;> (repeat' split) <;> first | rfl | omega | grind) (by intros; (try simp only [rII, rIJ, rIP, rJJ, rJI, rJP, rPP, rPI, rPJ, g1, g2, g3, g4, g5, g6, g7, g8, Nat.reduceEqDiff, Nat.reduceAdd, false_and, and_false, true_and, and_true, reduceIte, nZ0, nZ1]) <;> (repeat' split) <;> first | rfl | omega | grind)).1, ⟨RecE.fr (K := [41, 45, 54, 55]) (S := [113]) r9 (by repeat (first | exact Fr.rf | assumption | refine Fr.aJ g ?_ (by decide) | refine Fr.aI g ?_ (by decide) | refine Fr.sI g ?_ (by decide) | refine Fr.sJ g ?_ (by decide))) (by decide) (by decide), HeE.fr (jx := jx) (K := [41, 45, 54, 55]) (S := [113]) e9 (by repeat (first | exact Fr.rf | assumption | refine Fr.aJ g ?_ (by decide) | refine Fr.aI g ?_ (by decide) | refine Fr.sI g ?_ (by decide) | refine Fr.sJ g ?_ (by decide))) (by decide) (by decide), MkI.fr (rm := rm) (K := [41, 45, 54, 55]) (S := [113]) m9 (by repeat (first | exact Fr.rf | assumption | refine Fr.aJ g ?_ (by decide) | refine Fr.aI g ?_ (by decide) | refine Fr.sI g ?_ (by decide) | refine Fr.sJ g ?_ (by decide))) (by decide)⟩, LcI.up hlc (t := v1) (c := v5) (by omega) ⟨by omega, hin.1⟩ hin.2 (by intros; (try simp only [rII, rIJ, rIP, rJJ, rJI, rJP, rPP, rPI, rPJ, g1, g2, g3, g4, g5, g6, g7, g8, Nat.reduceEqDiff, Nat.reduceAdd, false_and, and_false, true_and, and_true, reduceIte, nZ0, nZ1]) <;> (repeat' split) <;> first | rfl | omega | grind) (by funext a9; (try simp only [rII, rIJ, rIP, rJJ, rJI, rJP, rPP, rPI, rPJ, g1, g2, g3, g4, g5, g6, g7, g8, Nat.reduceEqDiff, Nat.reduceAdd, false_and, and_false, true_and, and_true, reduceIte, nZ0, nZ1]) <;> first | rfl | omega | grind) (by intros; (try simp only [rII, rIJ, rIP, rJJ, rJI, rJP, rPP, rPI, rPJ, g1, g2, g3, g4, g5, g6, g7, g8, Nat.reduceEqDiff, Nat.reduceAdd, false_and, and_false, true_and, and_true, reduceIte, nZ0, nZ1]) <;> (repeat' split) <;> first | rfl | omega | grind), (by intros; (try simp only [rII, rIJ, rIP, rJJ, rJI, rJP, rPP, rPI, rPJ, g1, g2, g3, g4, g5, g6, g7, g8, Nat.reduceEqDiff, Nat.reduceAdd, false_and, and_false, true_and, and_true, reduceIte, nZ0, nZ1]) <;> (repeat' split) <;> first | rfl | omega | grind), by omega, by omega⟩
          · rename_i hc104
            skip
            unfold w_X16_taskTurn_107
            try simp only [forall_eq, rII, rIJ, rIP, rJJ, rJI, rJP, rPP, rPI, rPJ, g1, g2, g3, g4, g5, g6, g7, g8, Nat.reduceEqDiff, Nat.reduceAdd, false_and, and_false, true_and, and_true, reduceIte, nZ0, nZ1]
            refine hQ _ _ ?_ ?_ ?_
            · exact rσ
            · exact fσ
            · first | exact ⟨⟨t9, r9, e9, m9⟩, l9, c9⟩ | exact ⟨⟨t9, r9, e9, m9⟩, hlc, fun i => Int.le_refl _⟩
        · rename_i hc45
          skip
          unfold w_X16_taskTurn_48
          try simp only [forall_eq, rII, rIJ, rIP, rJJ, rJI, rJP, rPP, rPI, rPJ, g1, g2, g3, g4, g5, g6, g7, g8, Nat.reduceEqDiff, Nat.reduceAdd, false_and, and_false, true_and, and_true, reduceIte, nZ0, nZ1]
          split
          · rename_i hc51
            skip
            unfold w_X16_taskTurn_101
            try simp only [forall_eq, rII, rIJ, rIP, rJJ, rJI, rJP, rPP, rPI, rPJ, g1, g2, g3, g4, g5, g6, g7, g8, Nat.reduceEqDiff, Nat.reduceAdd, false_and, and_false, true_and, and_true, reduceIte, nZ0, nZ1]
            rw [if_pos hc51]
            unfold w_X16_taskTurn_109
            try simp only [forall_eq, rII, rIJ, rIP, rJJ, rJI, rJP, rPP, rPI, rPJ, g1, g2, g3, g4, g5, g6, g7, g8, Nat.reduceEqDiff, Nat.reduceAdd, false_and, and_false, true_and, and_true, reduceIte, nZ0, nZ1]
            have hc5 := hi42.2.2.resolve_left (by assumption)
            have hin := hly.mid pf.1 pf.2.1 pf.2.2 hc5.1 (by rw [← pn.1]; exact hc5.2.1)
            have hcy := (hly.2.1 v5.toNat (by omega)).2
            rw [hin.2] at hcy
            have h54 := rσ.1 54 v5.toNat; simp only [rgT] at h54
            have h55 := rσ.1 55 v5.toNat; simp only [rgT] at h55
            have h50 := rσ.2.1 50; simp only [rgS] at h50
            refine ⟨by (first | omega | with_reducible assumption | (unfold rng; omega) | (unfold rng; (repeat' split) <;> omega)), ?_⟩
            refine ⟨by (first | omega | with_reducible assumption | (unfold rng; omega) | (unfold rng; (repeat' split) <;> omega)), ?_⟩
            refine ⟨by (first | omega | with_reducible assumption | (unfold rng; omega) | (unfold rng; (repeat' split) <;> omega)), ?_⟩
            have q16 := rσ.1 55 (v5.toNat); simp only [rgT] at q16
            refine ⟨by (first | omega | with_reducible assumption | (unfold rng; omega) | (unfold rng; (repeat' split) <;> omega)), ?_⟩
            refine ⟨by (first | omega | with_reducible assumption | (unfold rng; omega) | (unfold rng; (repeat' split) <;> omega)), ?_⟩
            refine ⟨by (first | omega | with_reducible assumption | (unfold rng; omega) | (unfold rng; (repeat' split) <;> omega)), ?_⟩
            refine ⟨by (first | omega | with_reducible assumption | (unfold rng; omega) | (unfold rng; (repeat' split) <;> omega)), ?_⟩
            refine ⟨by (first | omega | with_reducible assumption | (unfold rng; omega) | (unfold rng; (repeat' split) <;> omega)), ?_⟩
            have q17 := remI_eq (x := ((gI σ (ra 55) v5.toNat) + 1)) (y := 8) (by (first | omega | with_reducible assumption | (unfold rng; omega) | (unfold rng; (repeat' split) <;> omega))) (by (first | omega | with_reducible assumption | (unfold rng; omega) | (unfold rng; (repeat' split) <;> omega)))
            refine ⟨by (first | omega | with_reducible assumption | (unfold rng; omega) | (unfold rng; (repeat' split) <;> omega)), ?_⟩
            have q18 := rσ.1 54 (v5.toNat); simp only [rgT] at q18
            refine ⟨by (first | omega | with_reducible assumption | (unfold rng; omega) | (unfold rng; (repeat' split) <;> omega)), ?_⟩
            refine ⟨by (first | omega | with_reducible assumption | (unfold rng; omega) | (unfold rng; (repeat' split) <;> omega)), ?_⟩
            refine ⟨by (first | omega | with_reducible assumption | (unfold rng; omega) | (unfold rng; (repeat' split) <;> omega)), ?_⟩
            refine ⟨by (first | omega | with_reducible assumption | (unfold rng; omega) | (unfold rng; (repeat' split) <;> omega)), ?_⟩
            have q19 := rσ.1 41 (v1.toNat); simp only [rgT] at q19
            have q20 := rσ.1 59 (((8 * v5) + (gI σ (ra 55) v5.toNat)).toNat); simp only [rgT] at q20
            refine ⟨by (first | omega | with_reducible assumption | (unfold rng; omega) | (unfold rng; (repeat' split) <;> omega)), ?_⟩
            refine ⟨by (first | omega | with_reducible assumption | (unfold rng; omega) | (unfold rng; (repeat' split) <;> omega)), ?_⟩
            refine ⟨by (first | omega | with_reducible assumption | (unfold rng; omega) | (unfold rng; (repeat' split) <;> omega)), ?_⟩
            have q21 := rσ.1 60 ((gI σ (ra 59) ((8 * v5) + (gI σ (ra 55) v5.toNat)).toNat).toNat); simp only [rgT] at q21
            have q22 := rσ.1 63 ((gI σ (ra 59) ((8 * v5) + (gI σ (ra 55) v5.toNat)).toNat).toNat); simp only [rgT] at q22
            have L212 : ∀ (fu212 : Nat) (τ212 : Sg) (v11 : Int), Rg ra jx rm τ212 → Fr ra jx rm [20, 26, 40, 41, 42, 44, 45, 46, 47, 48, 49, 54, 55, 56, 57, 60, 61, 62, 63, 64, 65, 68, 69, 70, 71, 72, 73, 74, 75, 76, 77, 78, 81, 82, 83, 84, 85, 86, 87, 88, 89, 97, 98, 99, 100, 101, 102, 103, 104, 105, 106, 107, 108, 109] [21, 27, 32, 66, 67, 79, 80, 90, 91, 92, 93, 96, 113] σ τ212 → (ThH ra rm τ212 (gI σ (ra 59) ((8 * v5) + (gI σ (ra 55) v5.toNat)).toNat) ∧ (RecE ra jx rm ja τ212 ∧ HeE ra rm τ212 ∧ MkI ra jx ja τ212) ∧ LcI ra rm τ212 ∧ (∀ i, gI τ212 (ra 54) i ≤ gI σ (ra 54) i) ∧ 0 ≤ v11 ∧ v11 ≤ 8) → ((8 - v11).toNat) < fu212 → wl_X16_taskTurn_212 ra jx rm Q X fu212 τ212 v1 r30 r32 v5 (gI σ (ra 59) ((8 * v5) + (gI σ (ra 55) v5.toNat)).toNat) (gI σ (ra 60) (gI σ (ra 59) ((8 * v5) + (gI σ (ra 55) v5.toNat)).toNat).toNat) (gJ σ (ra 61) (gI σ (ra 59) ((8 * v5) + (gI σ (ra 55) v5.toNat)).toNat).toNat) (gI σ (ra 63) (gI σ (ra 59) ((8 * v5) + (gI σ (ra 55) v5.toNat)).toNat).toNat) v11 := by
              intro fu212
              induction fu212 with
              | zero => intro τ212 _ _ _ _ h9; omega
              | succ fu212 ih212 =>
                intro τ212 v11 rτ212 fτ212 hi212 hm212
                unfold wl_X16_taskTurn_212
                have eτ212_38 := fτ212.1 38 (by decide)
                have eτ212_52 := fτ212.1 52 (by decide)
                have eτ212_53 := fτ212.1 53 (by decide)
                have eτ212_59 := fτ212.1 59 (by decide)
                have jτ212 := fτ212.2.2.1
                have obτ212 := Fr.ob fτ212 hja (by decide)
                unfold w_X16_taskTurn_212
                try simp only [forall_eq, rII, rIJ, rIP, rJJ, rJI, rJP, rPP, rPI, rPJ, g1, g2, g3, g4, g5, g6, g7, g8, Nat.reduceEqDiff, Nat.reduceAdd, false_and, and_false, true_and, and_true, reduceIte, nZ0, nZ1, eτ212_38.1, eτ212_38.2, eτ212_52.1, eτ212_52.2, eτ212_53.1, eτ212_53.2, eτ212_59.1, eτ212_59.2, fun a k => (jτ212 a k).1, fun a k => (jτ212 a k).2, obτ212]
                obtain ⟨h9, ⟨r9, e9, m9⟩, l9, c9, k1, k2⟩ := hi212
                split
                · rename_i hc216
                  skip
                  unfold w_X16_taskTurn_245
                  try simp only [forall_eq, rII, rIJ, rIP, rJJ, rJI, rJP, rPP, rPI, rPJ, g1, g2, g3, g4, g5, g6, g7, g8, Nat.reduceEqDiff, Nat.reduceAdd, false_and, and_false, true_and, and_true, reduceIte, nZ0, nZ1, eτ212_38.1, eτ212_38.2, eτ212_52.1, eτ212_52.2, eτ212_53.1, eτ212_53.2, eτ212_59.1, eτ212_59.2, fun a k => (jτ212 a k).1, fun a k => (jτ212 a k).2, obτ212]
                  refine s_X16_free g rτ212 h9 (by (try simp only [rII, rIJ, rIP, rJJ, rJI, rJP, rPP, rPI, rPJ, g1, g2, g3, g4, g5, g6, g7, g8, Nat.reduceEqDiff, Nat.reduceAdd, false_and, and_false, true_and, and_true, reduceIte, nZ0, nZ1, eτ212_38.1, eτ212_38.2, eτ212_52.1, eτ212_52.2, eτ212_53.1, eτ212_53.2, eτ212_59.1, eτ212_59.2, fun a k => (jτ212 a k).1, fun a k => (jτ212 a k).2, obτ212]) <;> (first | omega | with_reducible assumption | (unfold rng; omega) | (unfold rng; (repeat' split) <;> omega))) (fun σ48 _ rσ48 fc p23 => ?_)
                  have fσ48 : Fr ra jx rm [20, 26, 40, 41, 42, 44, 45, 46, 47, 48, 49, 54, 55, 56, 57, 60, 61, 62, 63, 64, 65, 68, 69, 70, 71, 72, 73, 74, 75, 76, 77, 78, 81, 82, 83, 84, 85, 86, 87, 88, 89, 97, 98, 99, 100, 101, 102, 103, 104, 105, 106, 107, 108, 109] [21, 27, 32, 66, 67, 79, 80, 90, 91, 92, 93, 96, 113] σ σ48 := Fr.tr fτ212 (Fr.mor (fc) (by decide) (by decide))
                  have t8 := p23
                  have r8 := RecE.fr r9 fc (by decide) (by decide)
                  have e8 := HeE.fr e9 fc (by decide) (by decide)
                  have m8 := MkI.fr m9 fc (by decide)
                  have t9 := t8; have r9 := r8; have e9 := e8; have m9 := m8; clear t8 r8 e8 m8
                  have l9 := LcI.fr l9 fc (by decide) (by decide)
                  have c9 : ∀ i, gI σ48 (ra 54) i ≤ gI σ (ra 54) i := fun i => by rw [(fc.1 54 (by decide)).1]; exact c9 i
                  have eσ48_38 := fσ48.1 38 (by decide)
                  have eσ48_52 := fσ48.1 52 (by decide)
                  have eσ48_53 := fσ48.1 53 (by decide)
                  have eσ48_59 := fσ48.1 59 (by decide)
                  have jσ48 := fσ48.2.2.1
                  have obσ48 := Fr.ob fσ48 hja (by decide)
                  try simp only [forall_eq, rII, rIJ, rIP, rJJ, rJI, rJP, rPP, rPI, rPJ, g1, g2, g3, g4, g5, g6, g7, g8, Nat.reduceEqDiff, Nat.reduceAdd, false_and, and_false, true_and, and_true, reduceIte, nZ0, nZ1, eσ48_38.1, eσ48_38.2, eσ48_52.1, eσ48_52.2, eσ48_53.1, eσ48_53.2, eσ48_59.1, eσ48_59.2, fun a k => (jσ48 a k).1, fun a k => (jσ48 a k).2, obσ48]
                  split
                  · rename_i hc253
                    skip
                    unfold w_X16_taskTurn_275
                    try simp only [forall_eq, rII, rIJ, rIP, rJJ, rJI, rJP, rPP, rPI, rPJ, g1, g2, g3, g4, g5, g6, g7, g8, Nat.reduceEqDiff, Nat.reduceAdd, false_and, and_false, true_and, and_true, reduceIte, nZ0, nZ1, eσ48_38.1, eσ48_38.2, eσ48_52.1, eσ48_52.2, eσ48_53.1, eσ48_53.2, eσ48_59.1, eσ48_59.2, fun a k => (jσ48 a k).1, fun a k => (jσ48 a k).2, obσ48]
                    split
                    · rename_i hc278
                      skip
                      unfold w_X16_taskTurn_295
                      try simp only [forall_eq, rII, rIJ, rIP, rJJ, rJI, rJP, rPP, rPI, rPJ, g1, g2, g3, g4, g5, g6, g7, g8, Nat.reduceEqDiff, Nat.reduceAdd, false_and, and_false, true_and, and_true, reduceIte, nZ0, nZ1, eσ48_38.1, eσ48_38.2, eσ48_52.1, eσ48_52.2, eσ48_53.1, eσ48_53.2, eσ48_59.1, eσ48_59.2, fun a k => (jσ48 a k).1, fun a k => (jσ48 a k).2, obσ48]
                      refine s_X16_takeBarrier g rσ48 (by first | exact hj | (rw [fσ48.2.2.2]; exact hj)) hja r9 t9 e9 m9 (by (try simp only [rII, rIJ, rIP, rJJ, rJI, rJP, rPP, rPI, rPJ, g1, g2, g3, g4, g5, g6, g7, g8, Nat.reduceEqDiff, Nat.reduceAdd, false_and, and_false, true_and, and_true, reduceIte, nZ0, nZ1, eσ48_38.1, eσ48_38.2, eσ48_52.1, eσ48_52.2, eσ48_53.1, eσ48_53.2, eσ48_59.1, eσ48_59.2, fun a k => (jσ48 a k).1, fun a k => (jσ48 a k).2, obσ48]) <;> (first | omega | with_reducible assumption | (unfold rng; omega) | (unfold rng; (repeat' split) <;> omega))) (by (try simp only [rII, rIJ, rIP, rJJ, rJI, rJP, rPP, rPI, rPJ, g1, g2, g3, g4, g5, g6, g7, g8, Nat.reduceEqDiff, Nat.reduceAdd, false_and, and_false, true_and, and_true, reduceIte, nZ0, nZ1, eσ48_38.1, eσ48_38.2, eσ48_52.1, eσ48_52.2, eσ48_53.1, eσ48_53.2, eσ48_59.1, eσ48_59.2, fun a k => (jσ48 a k).1, fun a k => (jσ48 a k).2, obσ48]) <;> (first | omega | with_reducible assumption | (unfold rng; omega) | (unfold rng; (repeat' split) <;> omega))) (by (try simp only [rII, rIJ, rIP, rJJ, rJI, rJP, rPP, rPI, rPJ, g1, g2, g3, g4, g5, g6, g7, g8, Nat.reduceEqDiff, Nat.reduceAdd, false_and, and_false, true_and, and_true, reduceIte, nZ0, nZ1, eσ48_38.1, eσ48_38.2, eσ48_52.1, eσ48_52.2, eσ48_53.1, eσ48_53.2, eσ48_59.1, eσ48_59.2, fun a k => (jσ48 a k).1, fun a k => (jσ48 a k).2, obσ48]) <;> (first | omega | with_reducible assumption | (unfold rng; omega) | (unfold rng; (repeat' split) <;> omega))) (by (try simp only [rII, rIJ, rIP, rJJ, rJI, rJP, rPP, rPI, rPJ, g1, g2, g3, g4, g5, g6, g7, g8, Nat.reduceEqDiff, Nat.reduceAdd, false_and, and_false, true_and, and_true, reduceIte, nZ0, nZ1, eσ48_38.1, eσ48_38.2, eσ48_52.1, eσ48_52.2, eσ48_53.1, eσ48_53.2, eσ48_59.1, eσ48_59.2, fun a k => (jσ48 a k).1, fun a k => (jσ48 a k).2, obσ48]) <;> exact JobOK.fr (K := [20, 26, 40, 41, 42, 44, 45, 46, 47, 48, 49, 54, 55, 56, 57, 60, 61, 62, 63, 64, 65, 68, 69, 70, 71, 72, 73, 74, 75, 76, 77, 78, 81, 82, 83, 84, 85, 86, 87, 88, 89, 97, 98, 99, 100, 101, 102, 103, 104, 105, 106, 107, 108, 109]) (S := [21, 27, 32, 66, 67, 79, 80, 90, 91, 92, 93, 96, 113]) hjo hja (by repeat (first | exact Fr.rf | assumption | refine Fr.aJ g ?_ (by decide) | refine Fr.aI g ?_ (by decide) | refine Fr.sI g ?_ (by decide) | refine Fr.sJ g ?_ (by decide))) (by decide)) (by (try simp only [rII, rIJ, rIP, rJJ, rJI, rJP, rPP, rPI, rPJ, g1, g2, g3, g4, g5, g6, g7, g8, Nat.reduceEqDiff, Nat.reduceAdd, false_and, and_false, true_and, and_true, reduceIte, nZ0, nZ1, eσ48_38.1, eσ48_38.2, eσ48_52.1, eσ48_52.2, eσ48_53.1, eσ48_53.2, eσ48_59.1, eσ48_59.2, fun a k => (jσ48 a k).1, fun a k => (jσ48 a k).2, obσ48]) <;> exact hto) (fun σ49 _ rσ49 fc p24 => ?_) (fun σx E rx fx px => hX _ _ rx (Fr.tr fσ48 (Fr.mor (fx) (by decide) (by decide))) ⟨px.1, ⟨px.2.1, px.2.2.1, px.2.2.2.1, px.2.2.2.2⟩, LcI.fr l9 fx (by decide) (by decide), fun i => by rw [(fx.1 54 (by decide)).1]; exact c9 i⟩)
                      have fσ49 : Fr ra jx rm [20, 26, 40, 41, 42, 44, 45, 46, 47, 48, 49, 54, 55, 56, 57, 60, 61, 62, 63, 64, 65, 68, 69, 70, 71, 72, 73, 74, 75, 76, 77, 78, 81, 82, 83, 84, 85, 86, 87, 88, 89, 97, 98, 99, 100, 101, 102, 103, 104, 105, 106, 107, 108, 109] [21, 27, 32, 66, 67, 79, 80, 90, 91, 92, 93, 96, 113] σ σ49 := Fr.tr fσ48 (Fr.mor (fc) (by decide) (by decide))
                      have t8 := p24.1
                      have r8 := p24.2.1
                      have e8 := p24.2.2.1
                      have m8 := p24.2.2.2
                      have t9 := t8; have r9 := r8; have e9 := e8; have m9 := m8; clear t8 r8 e8 m8
                      have l9 := LcI.fr l9 fc (by decide) (by decide)
                      have c9 : ∀ i, gI σ49 (ra 54) i ≤ gI σ (ra 54) i := fun i => by rw [(fc.1 54 (by decide)).1]; exact c9 i
                      have eσ49_38 := fσ49.1 38 (by decide)
                      have eσ49_52 := fσ49.1 52 (by decide)
                      have eσ49_53 := fσ49.1 53 (by decide)
                      have eσ49_59 := fσ49.1 59 (by decide)
                      have jσ49 := fσ49.2.2.1
                      have obσ49 := Fr.ob fσ49 hja (by decide)
                      try simp only [forall_eq, rII, rIJ, rIP, rJJ, rJI, rJP, rPP, rPI, rPJ, g1, g2, g3, g4, g5, g6, g7, g8, Nat.reduceEqDiff, Nat.reduceAdd, false_and, and_false, true_and, and_true, reduceIte, nZ0, nZ1, eσ49_38.1, eσ49_38.2, eσ49_52.1, eσ49_52.2, eσ49_53.1, eσ49_53.2, eσ49_59.1, eσ49_59.2, fun a k => (jσ49 a k).1, fun a k => (jσ49 a k).2, obσ49]
                      unfold w_X16_taskTurn_304
                      try simp only [forall_eq, rII, rIJ, rIP, rJJ, rJI, rJP, rPP, rPI, rPJ, g1, g2, g3, g4, g5, g6, g7, g8, Nat.reduceEqDiff, Nat.reduceAdd, false_and, and_false, true_and, and_true, reduceIte, nZ0, nZ1, eσ49_38.1, eσ49_38.2, eσ49_52.1, eσ49_52.2, eσ49_53.1, eσ49_53.2, eσ49_59.1, eσ49_59.2, fun a k => (jσ49 a k).1, fun a k => (jσ49 a k).2, obσ49]
                      refine hQ _ _ ?_ ?_ ?_
                      · exact rσ49
                      · exact fσ49
                      · first | exact ⟨⟨t9, r9, e9, m9⟩, l9, c9⟩ | exact ⟨⟨t9, r9, e9, m9⟩, hlc, fun i => Int.le_refl _⟩
                    · rename_i hc278
                      skip
                      unfold w_X16_taskTurn_281
                      try simp only [forall_eq, rII, rIJ, rIP, rJJ, rJI, rJP, rPP, rPI, rPJ, g1, g2, g3, g4, g5, g6, g7, g8, Nat.reduceEqDiff, Nat.reduceAdd, false_and, and_false, true_and, and_true, reduceIte, nZ0, nZ1, eσ48_38.1, eσ48_38.2, eσ48_52.1, eσ48_52.2, eσ48_53.1, eσ48_53.2, eσ48_59.1, eσ48_59.2, fun a k => (jσ48 a k).1, fun a k => (jσ48 a k).2, obσ48]
                      refine s_X16_takeWatermark g rσ48 (by first | exact hj | (rw [fσ48.2.2.2]; exact hj)) hja r9 t9 (by (try simp only [rII, rIJ, rIP, rJJ, rJI, rJP, rPP, rPI, rPJ, g1, g2, g3, g4, g5, g6, g7, g8, Nat.reduceEqDiff, Nat.reduceAdd, false_and, and_false, true_and, and_true, reduceIte, nZ0, nZ1, eσ48_38.1, eσ48_38.2, eσ48_52.1, eσ48_52.2, eσ48_53.1, eσ48_53.2, eσ48_59.1, eσ48_59.2, fun a k => (jσ48 a k).1, fun a k => (jσ48 a k).2, obσ48]) <;> (first | omega | with_reducible assumption | (unfold rng; omega) | (unfold rng; (repeat' split) <;> omega))) (by (try simp only [rII, rIJ, rIP, rJJ, rJI, rJP, rPP, rPI, rPJ, g1, g2, g3, g4, g5, g6, g7, g8, Nat.reduceEqDiff, Nat.reduceAdd, false_and, and_false, true_and, and_true, reduceIte, nZ0, nZ1, eσ48_38.1, eσ48_38.2, eσ48_52.1, eσ48_52.2, eσ48_53.1, eσ48_53.2, eσ48_59.1, eσ48_59.2, fun a k => (jσ48 a k).1, fun a k => (jσ48 a k).2, obσ48]) <;> (first | omega | with_reducible assumption | (unfold rng; omega) | (unfold rng; (repeat' split) <;> omega))) (by exact rσ.2.2.2 61 _) (by (try simp only [rII, rIJ, rIP, rJJ, rJI, rJP, rPP, rPI, rPJ, g1, g2, g3, g4, g5, g6, g7, g8, Nat.reduceEqDiff, Nat.reduceAdd, false_and, and_false, true_and, and_true, reduceIte, nZ0, nZ1, eσ48_38.1, eσ48_38.2, eσ48_52.1, eσ48_52.2, eσ48_53.1, eσ48_53.2, eσ48_59.1, eσ48_59.2, fun a k => (jσ48 a k).1, fun a k => (jσ48 a k).2, obσ48]) <;> (first | omega | with_reducible assumption | (unfold rng; omega) | (unfold rng; (repeat' split) <;> omega))) (by (try simp only [rII, rIJ, rIP, rJJ, rJI, rJP, rPP, rPI, rPJ, g1, g2, g3, g4, g5, g6, g7, g8, Nat.reduceEqDiff, Nat.reduceAdd, false_and, and_false, true_and, and_true, reduceIte, nZ0, nZ1, eσ48_38.1, eσ48_38.2, eσ48_52.1, eσ48_52.2, eσ48_53.1, eσ48_53.2, eσ48_59.1, eσ48_59.2, fun a k => (jσ48 a k).1, fun a k => (jσ48 a k).2, obσ48]) <;> first | exact hp | (rw [(fσ48.2.1 33 (by decide)).1]; exact hp)) (by (try simp only [rII, rIJ, rIP, rJJ, rJI, rJP, rPP, rPI, rPJ, g1, g2, g3, g4, g5, g6, g7, g8, Nat.reduceEqDiff, Nat.reduceAdd, false_and, and_false, true_and, and_true, reduceIte, nZ0, nZ1, eσ48_38.1, eσ48_38.2, eσ48_52.1, eσ48_52.2, eσ48_53.1, eσ48_53.2, eσ48_59.1, eσ48_59.2, fun a k => (jσ48 a k).1, fun a k => (jσ48 a k).2, obσ48]) <;> exact JobOK.fr (K := [20, 26, 40, 41, 42, 44, 45, 46, 47, 48, 49, 54, 55, 56, 57, 60, 61, 62, 63, 64, 65, 68, 69, 70, 71, 72, 73, 74, 75, 76, 77, 78, 81, 82, 83, 84, 85, 86, 87, 88, 89, 97, 98, 99, 100, 101, 102, 103, 104, 105, 106, 107, 108, 109]) (S := [21, 27, 32, 66, 67, 79, 80, 90, 91, 92, 93, 96, 113]) hjo hja (by repeat (first | exact Fr.rf | assumption | refine Fr.aJ g ?_ (by decide) | refine Fr.aI g ?_ (by decide) | refine Fr.sI g ?_ (by decide) | refine Fr.sJ g ?_ (by decide))) (by decide)) (by (try simp only [rII, rIJ, rIP, rJJ, rJI, rJP, rPP, rPI, rPJ, g1, g2, g3, g4, g5, g6, g7, g8, Nat.reduceEqDiff, Nat.reduceAdd, false_and, and_false, true_and, and_true, reduceIte, nZ0, nZ1, eσ48_38.1, eσ48_38.2, eσ48_52.1, eσ48_52.2, eσ48_53.1, eσ48_53.2, eσ48_59.1, eσ48_59.2, fun a k => (jσ48 a k).1, fun a k => (jσ48 a k).2, obσ48]) <;> exact hto) (fun σ50 _ rσ50 fc p25 => ?_) (fun σx E rx fx px => hX _ _ rx (Fr.tr fσ48 (Fr.mor (fx) (by decide) (by decide))) ⟨px.1, ⟨px.2.1, px.2.2, HeE.fr e9 fx (by decide) (by decide), MkI.fr m9 fx (by decide)⟩, LcI.fr l9 fx (by decide) (by decide), fun i => by rw [(fx.1 54 (by decide)).1]; exact c9 i⟩)
                      have fσ50 : Fr ra jx rm [20, 26, 40, 41, 42, 44, 45, 46, 47, 48, 49, 54, 55, 56, 57, 60, 61, 62, 63, 64, 65, 68, 69, 70, 71, 72, 73, 74, 75, 76, 77, 78, 81, 82, 83, 84, 85, 86, 87, 88, 89, 97, 98, 99, 100, 101, 102, 103, 104, 105, 106, 107, 108, 109] [21, 27, 32, 66, 67, 79, 80, 90, 91, 92, 93, 96, 113] σ σ50 := Fr.tr fσ48 (Fr.mor (fc) (by decide) (by decide))
                      have t8 := p25.2
                      have r8 := p25.1
                      have e8 := HeE.fr e9 fc (by decide) (by decide)
                      have m8 := MkI.fr m9 fc (by decide)
                      have t9 := t8; have r9 := r8; have e9 := e8; have m9 := m8; clear t8 r8 e8 m8
                      have l9 := LcI.fr l9 fc (by decide) (by decide)
                      have c9 : ∀ i, gI σ50 (ra 54) i ≤ gI σ (ra 54) i := fun i => by rw [(fc.1 54 (by decide)).1]; exact c9 i
                      have eσ50_38 := fσ50.1 38 (by decide)
                      have eσ50_52 := fσ50.1 52 (by decide)
                      have eσ50_53 := fσ50.1 53 (by decide)
                      have eσ50_59 := fσ50.1 59 (by decide)
                      have jσ50 := fσ50.2.2.1
                      have obσ50 := Fr.ob fσ50 hja (by decide)
                      try simp only [forall_eq, rII, rIJ, rIP, rJJ, rJI, rJP, rPP, rPI, rPJ, g1, g2, g3, g4, g5, g6, g7, g8, Nat.reduceEqDiff, Nat.reduceAdd, false_and, and_false, true_and, and_true, reduceIte, nZ0, nZ1, eσ50_38.1, eσ50_38.2, eσ50_52.1, eσ50_52.2, eσ50_53.1, eσ50_53.2, eσ50_59.1, eσ50_59.2, fun a k => (jσ50 a k).1, fun a k => (jσ50 a k).2, obσ50]
                      unfold w_X16_taskTurn_304
                      try simp only [forall_eq, rII, rIJ, rIP, rJJ, rJI, rJP, rPP, rPI, rPJ, g1, g2, g3, g4, g5, g6, g7, g8, Nat.reduceEqDiff, Nat.reduceAdd, false_and, and_false, true_and, and_true, reduceIte, nZ0, nZ1, eσ50_38.1, eσ50_38.2, eσ50_52.1, eσ50_52.2, eσ50_53.1, eσ50_53.2, eσ50_59.1, eσ50_59.2, fun a k => (jσ50 a k).1, fun a k => (jσ50 a k).2, obσ50]
                      refine hQ _ _ ?_ ?_ ?_
                      · exact rσ50
                      · exact fσ50
                      · first | exact ⟨⟨t9, r9, e9, m9⟩, l9, c9⟩ | exact ⟨⟨t9, r9, e9, m9⟩, hlc, fun i => Int.le_refl _⟩
                  · rename_i hc253
                    skip
                    unfold w_X16_taskTurn_256
                    try simp only [forall_eq, rII, rIJ, rIP, rJJ, rJI, rJP, rPP, rPI, rPJ, g1, g2, g3, g4, g5, g6, g7, g8, Nat.reduceEqDiff, Nat.reduceAdd, false_and, and_false, true_and, and_true, reduceIte, nZ0, nZ1, eσ48_38.1, eσ48_38.2, eσ48_52.1, eσ48_52.2, eσ48_53.1, eσ48_53.2, eσ48_59.1, eσ48_59.2, fun a k => (jσ48 a k).1, fun a k => (jσ48 a k).2, obσ48]
                    refine ⟨by (first | omega | with_reducible assumption | (unfold rng; omega) | (unfold rng; (repeat' split) <;> omega)), ?_⟩
                    have q26 := rσ.1 53 (v5.toNat); simp only [rgT] at q26
                    refine s_X16_takeRow g rσ48 (by first | exact hj | (rw [fσ48.2.2.2]; exact hj)) hja r9 t9 e9 (by (try simp only [rII, rIJ, rIP, rJJ, rJI, rJP, rPP, rPI, rPJ, g1, g2, g3, g4, g5, g6, g7, g8, Nat.reduceEqDiff, Nat.reduceAdd, false_and, and_false, true_and, and_true, reduceIte, nZ0, nZ1, eσ48_38.1, eσ48_38.2, eσ48_52.1, eσ48_52.2, eσ48_53.1, eσ48_53.2, eσ48_59.1, eσ48_59.2, fun a k => (jσ48 a k).1, fun a k => (jσ48 a k).2, obσ48]) <;> (first | omega | with_reducible assumption | (unfold rng; omega) | (unfold rng; (repeat' split) <;> omega))) (by (try simp only [rII, rIJ, rIP, rJJ, rJI, rJP, rPP, rPI, rPJ, g1, g2, g3, g4, g5, g6, g7, g8, Nat.reduceEqDiff, Nat.reduceAdd, false_and, and_false, true_and, and_true, reduceIte, nZ0, nZ1, eσ48_38.1, eσ48_38.2, eσ48_52.1, eσ48_52.2, eσ48_53.1, eσ48_53.2, eσ48_59.1, eσ48_59.2, fun a k => (jσ48 a k).1, fun a k => (jσ48 a k).2, obσ48]) <;> (first | omega | with_reducible assumption | (unfold rng; omega) | (unfold rng; (repeat' split) <;> omega))) (by exact rσ.2.2.2 61 _) (by (try simp only [rII, rIJ, rIP, rJJ, rJI, rJP, rPP, rPI, rPJ, g1, g2, g3, g4, g5, g6, g7, g8, Nat.reduceEqDiff, Nat.reduceAdd, false_and, and_false, true_and, and_true, reduceIte, nZ0, nZ1, eσ48_38.1, eσ48_38.2, eσ48_52.1, eσ48_52.2, eσ48_53.1, eσ48_53.2, eσ48_59.1, eσ48_59.2, fun a k => (jσ48 a k).1, fun a k => (jσ48 a k).2, obσ48]) <;> (first | omega | with_reducible assumption | (unfold rng; omega) | (unfold rng; (repeat' split) <;> omega))) (by (try simp only [rII, rIJ, rIP, rJJ, rJI, rJP, rPP, rPI, rPJ, g1, g2, g3, g4, g5, g6, g7, g8, Nat.reduceEqDiff, Nat.reduceAdd, false_and, and_false, true_and, and_true, reduceIte, nZ0, nZ1, eσ48_38.1, eσ48_38.2, eσ48_52.1, eσ48_52.2, eσ48_53.1, eσ48_53.2, eσ48_59.1, eσ48_59.2, fun a k => (jσ48 a k).1, fun a k => (jσ48 a k).2, obσ48]) <;> first | exact hp | (rw [(fσ48.2.1 33 (by decide)).1]; exact hp)) (by (try simp only [rII, rIJ, rIP, rJJ, rJI, rJP, rPP, rPI, rPJ, g1, g2, g3, g4, g5, g6, g7, g8, Nat.reduceEqDiff, Nat.reduceAdd, false_and, and_false, true_and, and_true, reduceIte, nZ0, nZ1, eσ48_38.1, eσ48_38.2, eσ48_52.1, eσ48_52.2, eσ48_53.1, eσ48_53.2, eσ48_59.1, eσ48_59.2, fun a k => (jσ48 a k).1, fun a k => (jσ48 a k).2, obσ48]) <;> exact JobOK.fr (K := [20, 26, 40, 41, 42, 44, 45, 46, 47, 48, 49, 54, 55, 56, 57, 60, 61, 62, 63, 64, 65, 68, 69, 70, 71, 72, 73, 74, 75, 76, 77, 78, 81, 82, 83, 84, 85, 86, 87, 88, 89, 97, 98, 99, 100, 101, 102, 103, 104, 105, 106, 107, 108, 109]) (S := [21, 27, 32, 66, 67, 79, 80, 90, 91, 92, 93, 96, 113]) hjo hja (by repeat (first | exact Fr.rf | assumption | refine Fr.aJ g ?_ (by decide) | refine Fr.aI g ?_ (by decide) | refine Fr.sI g ?_ (by decide) | refine Fr.sJ g ?_ (by decide))) (by decide)) (by (try simp only [rII, rIJ, rIP, rJJ, rJI, rJP, rPP, rPI, rPJ, g1, g2, g3, g4, g5, g6, g7, g8, Nat.reduceEqDiff, Nat.reduceAdd, false_and, and_false, true_and, and_true, reduceIte, nZ0, nZ1, eσ48_38.1, eσ48_38.2, eσ48_52.1, eσ48_52.2, eσ48_53.1, eσ48_53.2, eσ48_59.1, eσ48_59.2, fun a k => (jσ48 a k).1, fun a k => (jσ48 a k).2, obσ48]) <;> exact hto) (by (try simp only [rII, rIJ, rIP, rJJ, rJI, rJP, rPP, rPI, rPJ, g1, g2, g3, g4, g5, g6, g7, g8, Nat.reduceEqDiff, Nat.reduceAdd, false_and, and_false, true_and, and_true, reduceIte, nZ0, nZ1, eσ48_38.1, eσ48_38.2, eσ48_52.1, eσ48_52.2, eσ48_53.1, eσ48_53.2, eσ48_59.1, eσ48_59.2, fun a k => (jσ48 a k).1, fun a k => (jσ48 a k).2, obσ48]) <;> exact hcy) (by (try simp only [rII, rIJ, rIP, rJJ, rJI, rJP, rPP, rPI, rPJ, g1, g2, g3, g4, g5, g6, g7, g8, Nat.reduceEqDiff, Nat.reduceAdd, false_and, and_false, true_and, and_true, reduceIte, nZ0, nZ1, eσ48_38.1, eσ48_38.2, eσ48_52.1, eσ48_52.2, eσ48_53.1, eσ48_53.2, eσ48_59.1, eσ48_59.2, fun a k => (jσ48 a k).1, fun a k => (jσ48 a k).2, obσ48]) <;> exact hns) (fun σ51 _ rσ51 fc p27 => ?_) (fun σx E rx fx px => hX _ _ rx (Fr.tr fσ48 (Fr.mor (fx) (by decide) (by decide))) ⟨px.1, ⟨px.2.1, px.2.2.1, px.2.2.2, MkI.fr m9 fx (by decide)⟩, LcI.fr l9 fx (by decide) (by decide), fun i => by rw [(fx.1 54 (by decide)).1]; exact c9 i⟩)
                    have fσ51 : Fr ra jx rm [20, 26, 40, 41, 42, 44, 45, 46, 47, 48, 49, 54, 55, 56, 57, 60, 61, 62, 63, 64, 65, 68, 69, 70, 71, 72, 73, 74, 75, 76, 77, 78, 81, 82, 83, 84, 85, 86, 87, 88, 89, 97, 98, 99, 100, 101, 102, 103, 104, 105, 106, 107, 108, 109] [21, 27, 32, 66, 67, 79, 80, 90, 91, 92, 93, 96, 113] σ σ51 := Fr.tr fσ48 (Fr.mor (fc) (by decide) (by decide))
                    have t8 := p27.1
                    have r8 := p27.2.1
                    have e8 := p27.2.2
                    have m8 := MkI.fr m9 fc (by decide)
                    have t9 := t8; have r9 := r8; have e9 := e8; have m9 := m8; clear t8 r8 e8 m8
                    have l9 := LcI.fr l9 fc (by decide) (by decide)
                    have c9 : ∀ i, gI σ51 (ra 54) i ≤ gI σ (ra 54) i := fun i => by rw [(fc.1 54 (by decide)).1]; exact c9 i
                    have eσ51_38 := fσ51.1 38 (by decide)
                    have eσ51_52 := fσ51.1 52 (by decide)
                    have eσ51_53 := fσ51.1 53 (by decide)
                    have eσ51_59 := fσ51.1 59 (by decide)
                    have jσ51 := fσ51.2.2.1
                    have obσ51 := Fr.ob fσ51 hja (by decide)
                    try simp only [forall_eq, rII, rIJ, rIP, rJJ, rJI, rJP, rPP, rPI, rPJ, g1, g2, g3, g4, g5, g6, g7, g8, Nat.reduceEqDiff, Nat.reduceAdd, false_and, and_false, true_and, and_true, reduceIte, nZ0, nZ1, eσ51_38.1, eσ51_38.2, eσ51_52.1, eσ51_52.2, eσ51_53.1, eσ51_53.2, eσ51_59.1, eσ51_59.2, fun a k => (jσ51 a k).1, fun a k => (jσ51 a k).2, obσ51]
                    unfold w_X16_taskTurn_304
                    try simp only [forall_eq, rII, rIJ, rIP, rJJ, rJI, rJP, rPP, rPI, rPJ, g1, g2, g3, g4, g5, g6, g7, g8, Nat.reduceEqDiff, Nat.reduceAdd, false_and, and_false, true_and, and_true, reduceIte, nZ0, nZ1, eσ51_38.1, eσ51_38.2, eσ51_52.1, eσ51_52.2, eσ51_53.1, eσ51_53.2, eσ51_59.1, eσ51_59.2, fun a k => (jσ51 a k).1, fun a k => (jσ51 a k).2, obσ51]
                    refine hQ _ _ ?_ ?_ ?_
                    · exact rσ51
                    · exact fσ51
                    · first | exact ⟨⟨t9, r9, e9, m9⟩, l9, c9⟩ | exact ⟨⟨t9, r9, e9, m9⟩, hlc, fun i => Int.le_refl _⟩
                · rename_i hc216
                  skip
                  unfold w_X16_taskTurn_219
                  try simp only [forall_eq, rII, rIJ, rIP, rJJ, rJI, rJP, rPP, rPI, rPJ, g1, g2, g3, g4, g5, g6, g7, g8, Nat.reduceEqDiff, Nat.reduceAdd, false_and, and_false, true_and, and_true, reduceIte, nZ0, nZ1, eτ212_38.1, eτ212_38.2, eτ212_52.1, eτ212_52.2, eτ212_53.1, eτ212_53.2, eτ212_59.1, eτ212_59.2, fun a k => (jτ212 a k).1, fun a k => (jτ212 a k).2, obτ212]
                  refine ⟨by (first | omega | with_reducible assumption | (unfold rng; omega) | (unfold rng; (repeat' split) <;> omega)), ?_⟩
                  refine ⟨by (first | omega | with_reducible assumption | (unfold rng; omega) | (unfold rng; (repeat' split) <;> omega)), ?_⟩
                  refine ⟨by (first | omega | with_reducible assumption | (unfold rng; omega) | (unfold rng; (repeat' split) <;> omega)), ?_⟩
                  refine ⟨by (first | omega | with_reducible assumption | (unfold rng; omega) | (unfold rng; (repeat' split) <;> omega)), ?_⟩
                  refine ⟨by (first | omega | with_reducible assumption | (unfold rng; omega) | (unfold rng; (repeat' split) <;> omega)), ?_⟩
                  refine ih212 _ _ ?_ ?_ ?_ ?_
                  · refine Rg.aJ g ?_ (by simp only [rlT]; first | with_reducible assumption | omega | exact Int64.toInt_le _ | (rw [Int64.toInt_ofInt_of_le (by omega) (by omega)]; omega) | grind); exact rτ212
                  · refine Fr.aJ g ?_ (by decide); exact fτ212
                  · first | exact ⟨ThH.fr (jx := jx) (K := [81]) (S := []) h9 (by repeat (first | exact Fr.rf | assumption | refine Fr.aJ g ?_ (by decide) | refine Fr.aI g ?_ (by decide) | refine Fr.sI g ?_ (by decide) | refine Fr.sJ g ?_ (by decide))) (by decide) (by decide), ⟨RecE.fr (K := [81]) (S := []) r9 (by repeat (first | exact Fr.rf | assumption | refine Fr.aJ g ?_ (by decide) | refine Fr.aI g ?_ (by decide) | refine Fr.sI g ?_ (by decide) | refine Fr.sJ g ?_ (by decide))) (by decide) (by decide), HeE.fr (jx := jx) (K := [81]) (S := []) e9 (by repeat (first | exact Fr.rf | assumption | refine Fr.aJ g ?_ (by decide) | refine Fr.aI g ?_ (by decide) | refine Fr.sI g ?_ (by decide) | refine Fr.sJ g ?_ (by decide))) (by decide) (by decide), MkI.fr (rm := rm) (K := [81]) (S := []) m9 (by repeat (first | exact Fr.rf | assumption | refine Fr.aJ g ?_ (by decide) | refine Fr.aI g ?_ (by decide) | refine Fr.sI g ?_ (by decide) | refine Fr.sJ g ?_ (by decide))) (by decide)⟩, LcI.fr (jx := jx) (K := [81]) (S := []) l9 (by repeat (first | exact Fr.rf | assumption | refine Fr.aJ g ?_ (by decide) | refine Fr.aI g ?_ (by decide) | refine Fr.sI g ?_ (by decide) | refine Fr.sJ g ?_ (by decide))) (by decide) (by decide), fun i => by (try simp only [rII, rIJ, rIP, rJJ, rJI, rJP, rPP, rPI, rPJ, g1, g2, g3, g4, g5, g6, g7, g8, Nat.reduceEqDiff, Nat.reduceAdd, false_and, and_false, true_and, and_true, reduceIte, nZ0, nZ1, eτ212_38.1, eτ212_38.2, eτ212_52.1, eτ212_52.2, eτ212_53.1, eτ212_53.2, eτ212_59.1, eτ212_59.2, fun a k => (jτ212 a k).1, fun a k => (jτ212 a k).2, obτ212]) <;> exact c9 i, by omega, by omega⟩ | exact ⟨(hti.take (c := v5) (by omega) (by omega) (by omega) (by intros; (try simp only [rII, rIJ, rIP, rJJ, rJI, rJP, rPP, rPI, rPJ, g1, g2, g3, g4, g5, g6, g7, g8, Nat.reduceEqDiff, Nat.reduceAdd, false_and, and_false, true_and, and_true, reduceIte, nZ0, nZ1, eτ212_38.1, eτ212_38.2, eτ212_52.1, eτ212_52.2, eτ212_53.1, eτ212_53.2, eτ212_59.1, eτ212_59.2, fun a k => (jτ212 a k).1, fun a k => (jτ212 a k).2, obτ212]) <;> (repeat' split) <;> first | rfl | omega | grind) (by intros; (try simp only [rII, rIJ, rIP, rJJ, rJI, rJP, rPP, rPI, rPJ, g1, g2, g3, g4, g5, g6, g7, g8, Nat.reduceEqDiff, Nat.reduceAdd, false_and, and_false, true_and, and_true, reduceIte, nZ0, nZ1, eτ212_38.1, eτ212_38.2, eτ212_52.1, eτ212_52.2, eτ212_53.1, eτ212_53.2, eτ212_59.1, eτ212_59.2, fun a k => (jτ212 a k).1, fun a k => (jτ212 a k).2, obτ212]) <;> (repeat' split) <;> first | rfl | omega | grind) (by intros; (try simp only [rII, rIJ, rIP, rJJ, rJI, rJP, rPP, rPI, rPJ, g1, g2, g3, g4, g5, g6, g7, g8, Nat.reduceEqDiff, Nat.reduceAdd, false_and, and_false, true_and, and_true, reduceIte, nZ0, nZ1, eτ212_38.1, eτ212_38.2, eτ212_52.1, eτ212_52.2, eτ212_53.1, eτ212_53.2, eτ212_59.1, eτ212_59.2, fun a k => (jτ212 a k).1, fun a k => (jτ212 a k).2, obτ212]) <;> (repeat' split) <;> first | rfl | omega | grind) (by intros; (try simp only [rII, rIJ, rIP, rJJ, rJI, rJP, rPP, rPI, rPJ, g1, g2, g3, g4, g5, g6, g7, g8, Nat.reduceEqDiff, Nat.reduceAdd, false_and, and_false, true_and, and_true, reduceIte, nZ0, nZ1, eτ212_38.1, eτ212_38.2, eτ212_52.1, eτ212_52.2, eτ212_53.1, eτ212_53.2, eτ212_59.1, eτ212_59.2, fun a k => (jτ212 a k).1, fun a k => (jτ212 a k).2, obτ212]) <;> (repeat' split) <;> first | rfl | omega | grind) (by intros; (try simp only [rII, rIJ, rIP, rJJ, rJI, rJP, rPP, rPI, rPJ, g1, g2, g3, g4, g5, g6, g7, g8, Nat.reduceEqDiff, Nat.reduceAdd, false_and, and_false, true_and, and_true, reduceIte, nZ0, nZ1, eτ212_38.1, eτ212_38.2, eτ212_52.1, eτ212_52.2, eτ212_53.1, eτ212_53.2, eτ212_59.1, eτ212_59.2, fun a k => (jτ212 a k).1, fun a k => (jτ212 a k).2, obτ212]) <;> (repeat' split) <;> first | rfl | omega | grind) (by intros; (try simp only [rII, rIJ, rIP, rJJ, rJI, rJP, rPP, rPI, rPJ, g1, g2, g3, g4, g5, g6, g7, g8, Nat.reduceEqDiff, Nat.reduceAdd, false_and, and_false, true_and, and_true, reduceIte, nZ0, nZ1, eτ212_38.1, eτ212_38.2, eτ212_52.1, eτ212_52.2, eτ212_53.1, eτ212_53.2, eτ212_59.1, eτ212_59.2, fun a k => (jτ212 a k).1, fun a k => (jτ212 a k).2, obτ212]) <;> (repeat' split) <;> first | rfl | omega | grind) (by intros; (try simp only [rII, rIJ, rIP, rJJ, rJI, rJP, rPP, rPI, rPJ, g1, g2, g3, g4, g5, g6, g7, g8, Nat.reduceEqDiff, Nat.reduceAdd, false_and, and_false, true_and, and_true, reduceIte, nZ0, nZ1, eτ212_38.1, eτ212_38.2, eτ212_52.1, eτ212_52.2, eτ212_53.1, eτ212_53.2, eτ212_59.1, eτ212_59.2, fun a k => (jτ212 a k).1, fun a k => (jτ212 a k).2, obτ212]) <;> (repeat' split) <;> first | rfl | omega | grind) (by intros; (try simp only [rII, rIJ, rIP, rJJ, rJI, rJP, rPP, rPI, rPJ, g1, g2, g3, g4, g5, g6, g7, g8, Nat.reduceEqDiff, Nat.reduceAdd, false_and, and_false, true_and, and_true, reduceIte, nZ0, nZ1, eτ212_38.1, eτ212_38.2, eτ212_52.1, eτ212_52.2, eτ212_53.1, eτ212_53.2, eτ212_59.1, eτ212_59.2, fun a k => (jτ212 a k).1, fun a k => (jτ212 a k).2, obτ212]) <;> (repeat' split) <;> first | rfl | omega | grind)).1, ⟨RecE.fr (K := [41, 45, 54, 55]) (S := [113]) r9 (by repeat (first | exact Fr.rf | assumption | refine Fr.aJ g ?_ (by decide) | refine Fr.aI g ?_ (by decide) | refine Fr.sI g ?_ (by decide) | refine Fr.sJ g ?_ (by decide))) (by decide) (by decide), HeE.fr (jx := jx) (K := [41, 45, 54, 55]) (S := [113]) e9 (by repeat (first | exact Fr.rf | assumption | refine Fr.aJ g ?_ (by decide) | refine Fr.aI g ?_ (by decide) | refine Fr.sI g ?_ (by decide) | refine Fr.sJ g ?_ (by decide))) (by decide) (by decide), MkI.fr (rm := rm) (K := [41, 45, 54, 55]) (S := [113]) m9 (by repeat (first | exact Fr.rf | assumption | refine Fr.aJ g ?_ (by decide) | refine Fr.aI g ?_ (by decide) | refine Fr.sI g ?_ (by decide) | refine Fr.sJ g ?_ (by decide))) (by decide)⟩, LcI.up hlc (t := v1) (c := v5) (by omega) ⟨by omega, hin.1⟩ hin.2 (by intros; (try simp only [rII, rIJ, rIP, rJJ, rJI, rJP, rPP, rPI, rPJ, g1, g2, g3, g4, g5, g6, g7, g8, Nat.reduceEqDiff, Nat.reduceAdd, false_and, and_false, true_and, and_true, reduceIte, nZ0, nZ1, eτ212_38.1, eτ212_38.2, eτ212_52.1, eτ212_52.2, eτ212_53.1, eτ212_53.2, eτ212_59.1, eτ212_59.2, fun a k => (jτ212 a k).1, fun a k => (jτ212 a k).2, obτ212]) <;> (repeat' split) <;> first | rfl | omega | grind) (by funext a9; (try simp only [rII, rIJ, rIP, rJJ, rJI, rJP, rPP, rPI, rPJ, g1, g2, g3, g4, g5, g6, g7, g8, Nat.reduceEqDiff, Nat.reduceAdd, false_and, and_false, true_and, and_true, reduceIte, nZ0, nZ1, eτ212_38.1, eτ212_38.2, eτ212_52.1, eτ212_52.2, eτ212_53.1, eτ212_53.2, eτ212_59.1, eτ212_59.2, fun a k => (jτ212 a k).1, fun a k => (jτ212 a k).2, obτ212]) <;> first | rfl | omega | grind) (by intros; (try simp only [rII, rIJ, rIP, rJJ, rJI, rJP, rPP, rPI, rPJ, g1, g2, g3, g4, g5, g6, g7, g8, Nat.reduceEqDiff, Nat.reduceAdd, false_and, and_false, true_and, and_true, reduceIte, nZ0, nZ1, eτ212_38.1, eτ212_38.2, eτ212_52.1, eτ212_52.2, eτ212_53.1, eτ212_53.2, eτ212_59.1, eτ212_59.2, fun a k => (jτ212 a k).1, fun a k => (jτ212 a k).2, obτ212]) <;> (repeat' split) <;> first | rfl | omega | grind), (by intros; (try simp only [rII, rIJ, rIP, rJJ, rJI, rJP, rPP, rPI, rPJ, g1, g2, g3, g4, g5, g6, g7, g8, Nat.reduceEqDiff, Nat.reduceAdd, false_and, and_false, true_and, and_true, reduceIte, nZ0, nZ1, eτ212_38.1, eτ212_38.2, eτ212_52.1, eτ212_52.2, eτ212_53.1, eτ212_53.2, eτ212_59.1, eτ212_59.2, fun a k => (jτ212 a k).1, fun a k => (jτ212 a k).2, obτ212]) <;> (repeat' split) <;> first | rfl | omega | grind), by omega, by omega⟩
                  · (try simp only [rII, rIJ, rIP, rJJ, rJI, rJP, rPP, rPI, rPJ, g1, g2, g3, g4, g5, g6, g7, g8, Nat.reduceEqDiff, Nat.reduceAdd, false_and, and_false, true_and, and_true, reduceIte, nZ0, nZ1, eτ212_38.1, eτ212_38.2, eτ212_52.1, eτ212_52.2, eτ212_53.1, eτ212_53.2, eτ212_59.1, eτ212_59.2, fun a k => (jτ212 a k).1, fun a k => (jτ212 a k).2, obτ212]) <;> (first | omega | with_reducible assumption | (unfold rng; omega) | (unfold rng; (repeat' split) <;> omega))
            refine ⟨_, L212 _ _ _ ?_ ?_ ?_ (Nat.lt_succ_self _)⟩
            · refine Rg.sI g ?_ (by simp only [rgS]; first | with_reducible exact nZ_rng _ | with_reducible exact nB_rng _ | with_reducible exact wr_rng _ | with_reducible exact i32any _ | (first | omega | with_reducible assumption | (unfold rng; omega) | (unfold rng; (repeat' split) <;> omega))); refine Rg.aI g ?_ (by simp only [rgT]; first | with_reducible exact nZ_rng _ | with_reducible exact nB_rng _ | with_reducible exact wr_rng _ | with_reducible exact i32any _ | (first | omega | with_reducible assumption | (unfold rng; omega) | (unfold rng; (repeat' split) <;> omega))); refine Rg.aI g ?_ (by simp only [rgT]; first | with_reducible exact nZ_rng _ | with_reducible exact nB_rng _ | with_reducible exact wr_rng _ | with_reducible exact i32any _ | (first | omega | with_reducible assumption | (unfold rng; omega) | (unfold rng; (repeat' split) <;> omega))); refine Rg.aI g ?_ (by simp only [rgT]; first | with_reducible exact nZ_rng _ | with_reducible exact nB_rng _ | with_reducible exact wr_rng _ | with_reducible exact i32any _ | (first | omega | with_reducible assumption | (unfold rng; omega) | (unfold rng; (repeat' split) <;> omega))); refine Rg.aI g ?_ (by simp only [rgT]; first | with_reducible exact nZ_rng _ | with_reducible exact nB_rng _ | with_reducible exact wr_rng _ | with_reducible exact i32any _ | (first | omega | with_reducible assumption | (unfold rng; omega) | (unfold rng; (repeat' split) <;> omega))); exact rσ
            · refine Fr.sI g ?_ (by decide); refine Fr.aI g ?_ (by decide); refine Fr.aI g ?_ (by decide); refine Fr.aI g ?_ (by decide); refine Fr.aI g ?_ (by decide); exact fσ
            · first | exact ⟨ThH.fr (jx := jx) (K := [81]) (S := []) h9 (by repeat (first | exact Fr.rf | assumption | refine Fr.aJ g ?_ (by decide) | refine Fr.aI g ?_ (by decide) | refine Fr.sI g ?_ (by decide) | refine Fr.sJ g ?_ (by decide))) (by decide) (by decide), ⟨RecE.fr (K := [81]) (S := []) r9 (by repeat (first | exact Fr.rf | assumption | refine Fr.aJ g ?_ (by decide) | refine Fr.aI g ?_ (by decide) | refine Fr.sI g ?_ (by decide) | refine Fr.sJ g ?_ (by decide))) (by decide) (by decide), HeE.fr (jx := jx) (K := [81]) (S := []) e9 (by repeat (first | exact Fr.rf | assumption | refine Fr.aJ g ?_ (by decide) | refine Fr.aI g ?_ (by decide) | refine Fr.sI g ?_ (by decide) | refine Fr.sJ g ?_ (by decide))) (by decide) (by decide), MkI.fr (rm := rm) (K := [81]) (S := []) m9 (by repeat (first | exact Fr.rf | assumption | refine Fr.aJ g ?_ (by decide) | refine Fr.aI g ?_ (by decide) | refine Fr.sI g ?_ (by decide) | refine Fr.sJ g ?_ (by decide))) (by decide)⟩, LcI.fr (jx := jx) (K := [81]) (S := []) l9 (by repeat (first | exact Fr.rf | assumption | refine Fr.aJ g ?_ (by decide) | refine Fr.aI g ?_ (by decide) | refine Fr.sI g ?_ (by decide) | refine Fr.sJ g ?_ (by decide))) (by decide) (by decide), fun i => by (try simp only [rII, rIJ, rIP, rJJ, rJI, rJP, rPP, rPI, rPJ, g1, g2, g3, g4, g5, g6, g7, g8, Nat.reduceEqDiff, Nat.reduceAdd, false_and, and_false, true_and, and_true, reduceIte, nZ0, nZ1]) <;> exact c9 i, by omega, by omega⟩ | exact ⟨(hti.take (c := v5) (by omega) (by omega) (by omega) (by intros; (try simp only [rII, rIJ, rIP, rJJ, rJI, rJP, rPP, rPI, rPJ, g1, g2, g3, g4, g5, g6, g7, g8, Nat.reduceEqDiff, Nat.reduceAdd, false_and, and_false, true_and, and_true, reduceIte, nZ0, nZ1]) <;> (repeat' split) <;> first | rfl | omega | grind) (by intros; (try simp only [rII, rIJ, rIP, rJJ, rJI, rJP, rPP, rPI, rPJ, g1, g2, g3, g4, g5, g6, g7, g8, Nat.reduceEqDiff, Nat.reduceAdd, false_and, and_false, true_and, and_true, reduceIte, nZ0, nZ1]) <;> (repeat' split) <;> first | rfl | omega | grind) (by intros; (try simp only [rII, rIJ, rIP, rJJ, rJI, rJP, rPP, rPI, rPJ, g1, g2, g3, g4, g5, g6, g7, g8, Nat.reduceEqDiff, Nat.reduceAdd, false_and, and_false, true_and, and_true, reduceIte, nZ0, nZ1]) <;> (repeat' split) <;> first | rfl | omega | grind) (by intros; (try simp only [rII, rIJ, rIP, rJJ, rJI, rJP, rPP, rPI, rPJ, g1, g2, g3, g4, g5, g6, g7, g8, Nat.reduceEqDiff, Nat.reduceAdd, false_and, and_false, true_and, and_true, reduceIte, nZ0, nZ1]) <;> (repeat' split) <;> first | rfl | omega | grind) (by intros; (try simp only [rII, rIJ, rIP, rJJ, rJI, rJP, rPP, rPI, rPJ, g1, g2, g3, g4, g5, g6, g7, g8, Nat.reduceEqDiff, Nat.reduceAdd, false_and, and_false, true_and, and_true, reduceIte, nZ0, nZ1]) <;> (repeat' split) <;> first | rfl | omega | grind) (by intros; (try simp only [rII, rIJ, rIP, rJJ, rJI, rJP, rPP, rPI, rPJ, g1, g2, g3, g4, g5, g6, g7, g8, Nat.reduceEqDiff, Nat.reduceAdd, false_and, and_false, true_and, and_true, reduceIte, nZ0, nZ1]) <;> (repeat' split) <;> first | rfl | omega | grind) (by intros; (try simp only [rII, rIJ, rIP, rJJ, rJI, rJP, rPP, rPI, rPJ, g1, g2, g3, g4, g5, g6, g7, g8, Nat.reduceEqDiff, Nat.reduceAdd, false_and, and_false, true_and, and_true, reduceIte, nZ0, nZ1]) <;> (repeat' split) <;> first | rfl | omega | grind) (by intros; (try simp only [rII, rIJ, rIP, rJJ, rJI, rJP, rPP, rPI, rPJ, g1, g2, g3, g4, g5, g6, g7, g8, Nat.reduceEqDiff, Nat.reduceAdd, false_and, and_false, true_and, and_true, reduceIte, nZ0, nZ1]) <;> (repeat' split) <;> first | rfl | omega | grind)).1, ⟨RecE.fr (K := [41, 45, 54, 55]) (S := [113]) r9 (by repeat (first | exact Fr.rf | assumption | refine Fr.aJ g ?_ (by decide) | refine Fr.aI g ?_ (by decide) | refine Fr.sI g ?_ (by decide) | refine Fr.sJ g ?_ (by decide))) (by decide) (by decide), HeE.fr (jx := jx) (K := [41, 45, 54, 55]) (S := [113]) e9 (by repeat (first | exact Fr.rf | assumption | refine Fr.aJ g ?_ (by decide) | refine Fr.aI g ?_ (by decide) | refine Fr.sI g ?_ (by decide) | refine Fr.sJ g ?_ (by decide))) (by decide) (by decide), MkI.fr (rm := rm) (K := [41, 45, 54, 55]) (S := [113]) m9 (by repeat (first | exact Fr.rf | assumption | refine Fr.aJ g ?_ (by decide) | refine Fr.aI g ?_ (by decide) | refine Fr.sI g ?_ (by decide) | refine Fr.sJ g ?_ (by decide))) (by decide)⟩, LcI.up hlc (t := v1) (c := v5) (by omega) ⟨by omega, hin.1⟩ hin.2 (by intros; (try simp only [rII, rIJ, rIP, rJJ, rJI, rJP, rPP, rPI, rPJ, g1, g2, g3, g4, g5, g6, g7, g8, Nat.reduceEqDiff, Nat.reduceAdd, false_and, and_false, true_and, and_true, reduceIte, nZ0, nZ1]) <;> (repeat' split) <;> first | rfl | omega | grind) (by funext a9; (try simp only [rII, rIJ, rIP, rJJ, rJI, rJP, rPP, rPI, rPJ, g1, g2, g3, g4, g5, g6, g7, g8, Nat.reduceEqDiff, Nat.reduceAdd, false_and, and_false, true_and, and_true, reduceIte, nZ0, nZ1]) <;> first | rfl | omega | grind) (by intros; (try simp only [rII, rIJ, rIP, rJJ, rJI, rJP, rPP, rPI, rPJ, g1, g2, g3, g4, g5, g6, g7, g8, Nat.reduceEqDiff, Nat.reduceAdd, false_and, and_false, true_and, and_true, reduceIte, nZ0, nZ1]) <;> (repeat' split) <;> first | rfl | omega | grind), (by intros; (try simp only [rII, rIJ, rIP, rJJ, rJI, rJP, rPP, rPI, rPJ, g1, g2, g3, g4, g5, g6, g7, g8, Nat.reduceEqDiff, Nat.reduceAdd, false_and, and_false, true_and, and_true, reduceIte, nZ0, nZ1]) <;> (repeat' split) <;> first | rfl | omega | grind), by omega, by omega⟩
          · rename_i hc51
            skip
            unfold w_X16_taskTurn_54
            try simp only [forall_eq, rII, rIJ, rIP, rJJ, rJI, rJP, rPP, rPI, rPJ, g1, g2, g3, g4, g5, g6, g7, g8, Nat.reduceEqDiff, Nat.reduceAdd, false_and, and_false, true_and, and_true, reduceIte, nZ0, nZ1]
            refine ⟨by (first | omega | with_reducible assumption | (unfold rng; omega) | (unfold rng; (repeat' split) <;> omega)), ?_⟩
            refine ⟨by (first | omega | with_reducible assumption | (unfold rng; omega) | (unfold rng; (repeat' split) <;> omega)), ?_⟩
            refine ⟨by (first | omega | with_reducible assumption | (unfold rng; omega) | (unfold rng; (repeat' split) <;> omega)), ?_⟩
            have q28 := remI_eq (x := ((((gI σ (ra 45) v1.toNat) + 1) - r30) + v6)) (y := r32) (by (first | omega | with_reducible assumption | (unfold rng; omega) | (unfold rng; (repeat' split) <;> omega))) (by (first | omega | with_reducible assumption | (unfold rng; omega) | (unfold rng; (repeat' split) <;> omega)))
            refine ⟨by (first | omega | with_reducible assumption | (unfold rng; omega) | (unfold rng; (repeat' split) <;> omega)), ?_⟩
            refine ⟨by (first | omega | with_reducible assumption | (unfold rng; omega) | (unfold rng; (repeat' split) <;> omega)), ?_⟩
            have q29 := rσ.1 54 ((r30 + (remI ((((gI σ (ra 45) v1.toNat) + 1) - r30) + v6) r32)).toNat); simp only [rgT] at q29
            split
            · rename_i hc74
              skip
              unfold w_X16_taskTurn_92
              try simp only [forall_eq, rII, rIJ, rIP, rJJ, rJI, rJP, rPP, rPI, rPJ, g1, g2, g3, g4, g5, g6, g7, g8, Nat.reduceEqDiff, Nat.reduceAdd, false_and, and_false, true_and, and_true, reduceIte, nZ0, nZ1]
              unfold w_X16_taskTurn_93
              try simp only [forall_eq, rII, rIJ, rIP, rJJ, rJI, rJP, rPP, rPI, rPJ, g1, g2, g3, g4, g5, g6, g7, g8, Nat.reduceEqDiff, Nat.reduceAdd, false_and, and_false, true_and, and_true, reduceIte, nZ0, nZ1]
              refine ⟨by (first | omega | with_reducible assumption | (unfold rng; omega) | (unfold rng; (repeat' split) <;> omega)), ?_⟩
              refine ih42 _ _ ?_ ?_
              · refine ⟨by omega, by omega, ?_⟩; first | exact Or.inl rfl | exact Or.inr ⟨by omega, by omega, by omega⟩
              · (try simp only [rII, rIJ, rIP, rJJ, rJI, rJP, rPP, rPI, rPJ, g1, g2, g3, g4, g5, g6, g7, g8, Nat.reduceEqDiff, Nat.reduceAdd, false_and, and_false, true_and, and_true, reduceIte, nZ0, nZ1]) <;> (first | omega | with_reducible assumption | (unfold rng; omega) | (unfold rng; (repeat' split) <;> omega))
            · rename_i hc74
              skip
              unfold w_X16_taskTurn_77
              try simp only [forall_eq, rII, rIJ, rIP, rJJ, rJI, rJP, rPP, rPI, rPJ, g1, g2, g3, g4, g5, g6, g7, g8, Nat.reduceEqDiff, Nat.reduceAdd, false_and, and_false, true_and, and_true, reduceIte, nZ0, nZ1]
              refine ⟨by (first | omega | with_reducible assumption | (unfold rng; omega) | (unfold rng; (repeat' split) <;> omega)), ?_⟩
              have q30 := rσ.1 57 ((r30 + (remI ((((gI σ (ra 45) v1.toNat) + 1) - r30) + v6) r32)).toNat); simp only [rgT] at q30
              split
              · rename_i hc84
                skip
                unfold w_X16_taskTurn_92
                try simp only [forall_eq, rII, rIJ, rIP, rJJ, rJI, rJP, rPP, rPI, rPJ, g1, g2, g3, g4, g5, g6, g7, g8, Nat.reduceEqDiff, Nat.reduceAdd, false_and, and_false, true_and, and_true, reduceIte, nZ0, nZ1]
                unfold w_X16_taskTurn_93
                try simp only [forall_eq, rII, rIJ, rIP, rJJ, rJI, rJP, rPP, rPI, rPJ, g1, g2, g3, g4, g5, g6, g7, g8, Nat.reduceEqDiff, Nat.reduceAdd, false_and, and_false, true_and, and_true, reduceIte, nZ0, nZ1]
                refine ⟨by (first | omega | with_reducible assumption | (unfold rng; omega) | (unfold rng; (repeat' split) <;> omega)), ?_⟩
                refine ih42 _ _ ?_ ?_
                · refine ⟨by omega, by omega, ?_⟩; first | exact Or.inl rfl | exact Or.inr ⟨by omega, by omega, by omega⟩
                · (try simp only [rII, rIJ, rIP, rJJ, rJI, rJP, rPP, rPI, rPJ, g1, g2, g3, g4, g5, g6, g7, g8, Nat.reduceEqDiff, Nat.reduceAdd, false_and, and_false, true_and, and_true, reduceIte, nZ0, nZ1]) <;> (first | omega | with_reducible assumption | (unfold rng; omega) | (unfold rng; (repeat' split) <;> omega))
              · rename_i hc84
                skip
                unfold w_X16_taskTurn_87
                try simp only [forall_eq, rII, rIJ, rIP, rJJ, rJI, rJP, rPP, rPI, rPJ, g1, g2, g3, g4, g5, g6, g7, g8, Nat.reduceEqDiff, Nat.reduceAdd, false_and, and_false, true_and, and_true, reduceIte, nZ0, nZ1]
                unfold w_X16_taskTurn_93
                try simp only [forall_eq, rII, rIJ, rIP, rJJ, rJI, rJP, rPP, rPI, rPJ, g1, g2, g3, g4, g5, g6, g7, g8, Nat.reduceEqDiff, Nat.reduceAdd, false_and, and_false, true_and, and_true, reduceIte, nZ0, nZ1]
                refine ⟨by (first | omega | with_reducible assumption | (unfold rng; omega) | (unfold rng; (repeat' split) <;> omega)), ?_⟩
                refine ih42 _ _ ?_ ?_
                · refine ⟨by omega, by omega, ?_⟩; first | exact Or.inl rfl | exact Or.inr ⟨by omega, by omega, by omega⟩
                · (try simp only [rII, rIJ, rIP, rJJ, rJI, rJP, rPP, rPI, rPJ, g1, g2, g3, g4, g5, g6, g7, g8, Nat.reduceEqDiff, Nat.reduceAdd, false_and, and_false, true_and, and_true, reduceIte, nZ0, nZ1]) <;> (first | omega | with_reducible assumption | (unfold rng; omega) | (unfold rng; (repeat' split) <;> omega))
    refine ⟨_, L42 _ _ _ ?_ (Nat.lt_succ_self _)⟩
    · refine ⟨by omega, by omega, ?_⟩; first | exact Or.inl rfl | exact Or.inr ⟨by omega, by omega, by omega⟩
  · rename_i hc19
    skip
    unfold w_X16_taskTurn_22
    try simp only [forall_eq, rII, rIJ, rIP, rJJ, rJI, rJP, rPP, rPI, rPJ, g1, g2, g3, g4, g5, g6, g7, g8, Nat.reduceEqDiff, Nat.reduceAdd, false_and, and_false, true_and, and_true, reduceIte, nZ0, nZ1]
    unfold w_X16_taskTurn_34
    try simp only [forall_eq, rII, rIJ, rIP, rJJ, rJI, rJP, rPP, rPI, rPJ, g1, g2, g3, g4, g5, g6, g7, g8, Nat.reduceEqDiff, Nat.reduceAdd, false_and, and_false, true_and, and_true, reduceIte, nZ0, nZ1]
    have L42 : ∀ (fu42 : Nat) (v5 : Int) (v6 : Int), (0 ≤ v6 ∧ v6 ≤ r32 ∧ (v5 = -1 ∨ (r30 ≤ v5 ∧ v5 < r30 + r32 ∧ 0 < gI σ (ra 54) v5.toNat))) → ((r32 - v6).toNat) < fu42 → wl_X16_taskTurn_42 ra jx rm Q X fu42 σ v1 r30 r32 r30 v5 v6 := by
      intro fu42
      induction fu42 with
      | zero => intro  _ _ _ h9; omega
      | succ fu42 ih42 =>
        intro v5 v6 hi42 hm42
        unfold wl_X16_taskTurn_42
        unfold w_X16_taskTurn_42
        try simp only [forall_eq, rII, rIJ, rIP, rJJ, rJI, rJP, rPP, rPI, rPJ, g1, g2, g3, g4, g5, g6, g7, g8, Nat.reduceEqDiff, Nat.reduceAdd, false_and, and_false, true_and, and_true, reduceIte, nZ0, nZ1]
        split
        · rename_i hc45
          skip
          unfold w_X16_taskTurn_101
          try simp only [forall_eq, rII, rIJ, rIP, rJJ, rJI, rJP, rPP, rPI, rPJ, g1, g2, g3, g4, g5, g6, g7, g8, Nat.reduceEqDiff, Nat.reduceAdd, false_and, and_false, true_and, and_true, reduceIte, nZ0, nZ1]
          split
          · rename_i hc104
            skip
            unfold w_X16_taskTurn_109
            try simp only [forall_eq, rII, rIJ, rIP, rJJ, rJI, rJP, rPP, rPI, rPJ, g1, g2, g3, g4, g5, g6, g7, g8, Nat.reduceEqDiff, Nat.reduceAdd, false_and, and_false, true_and, and_true, reduceIte, nZ0, nZ1]
            have hc5 := hi42.2.2.resolve_left (by assumption)
            have hin := hly.mid pf.1 pf.2.1 pf.2.2 hc5.1 (by rw [← pn.1]; exact hc5.2.1)
            have hcy := (hly.2.1 v5.toNat (by omega)).2
            rw [hin.2] at hcy
            have h54 := rσ.1 54 v5.toNat; simp only [rgT] at h54
            have h55 := rσ.1 55 v5.toNat; simp only [rgT] at h55
            have h50 := rσ.2.1 50; simp only [rgS] at h50
            refine ⟨by (first | omega | with_reducible assumption | (unfold rng; omega) | (unfold rng; (repeat' split) <;> omega)), ?_⟩
            refine ⟨by (first | omega | with_reducible assumption | (unfold rng; omega) | (unfold rng; (repeat' split) <;> omega)), ?_⟩
            refine ⟨by (first | omega | with_reducible assumption | (unfold rng; omega) | (unfold rng; (repeat' split) <;> omega)), ?_⟩
            have q31 := rσ.1 55 (v5.toNat); simp only [rgT] at q31
            refine ⟨by (first | omega | with_reducible assumption | (unfold rng; omega) | (unfold rng; (repeat' split) <;> omega)), ?_⟩
            refine ⟨by (first | omega | with_reducible assumption | (unfold rng; omega) | (unfold rng; (repeat' split) <;> omega)), ?_⟩
            refine ⟨by (first | omega | with_reducible assumption | (unfold rng; omega) | (unfold rng; (repeat' split) <;> omega)), ?_⟩
            refine ⟨by (first | omega | with_reducible assumption | (unfold rng; omega) | (unfold rng; (repeat' split) <;> omega)), ?_⟩
            refine ⟨by (first | omega | with_reducible assumption | (unfold rng; omega) | (unfold rng; (repeat' split) <;> omega)), ?_⟩
            have q32 := remI_eq (x := ((gI σ (ra 55) v5.toNat) + 1)) (y := 8) (by (first | omega | with_reducible assumption | (unfold rng; omega) | (unfold rng; (repeat' split) <;> omega))) (by (first | omega | with_reducible assumption | (unfold rng; omega) | (unfold rng; (repeat' split) <;> omega)))
            refine ⟨by (first | omega | with_reducible assumption | (unfold rng; omega) | (unfold rng; (repeat' split) <;> omega)), ?_⟩
            have q33 := rσ.1 54 (v5.toNat); simp only [rgT] at q33
            refine ⟨by (first | omega | with_reducible assumption | (unfold rng; omega) | (unfold rng; (repeat' split) <;> omega)), ?_⟩
            refine ⟨by (first | omega | with_reducible assumption | (unfold rng; omega) | (unfold rng; (repeat' split) <;> omega)), ?_⟩
            refine ⟨by (first | omega | with_reducible assumption | (unfold rng; omega) | (unfold rng; (repeat' split) <;> omega)), ?_⟩
            refine ⟨by (first | omega | with_reducible assumption | (unfold rng; omega) | (unfold rng; (repeat' split) <;> omega)), ?_⟩
            have q34 := rσ.1 41 (v1.toNat); simp only [rgT] at q34
            have q35 := rσ.1 59 (((8 * v5) + (gI σ (ra 55) v5.toNat)).toNat); simp only [rgT] at q35
            refine ⟨by (first | omega | with_reducible assumption | (unfold rng; omega) | (unfold rng; (repeat' split) <;> omega)), ?_⟩
            refine ⟨by (first | omega | with_reducible assumption | (unfold rng; omega) | (unfold rng; (repeat' split) <;> omega)), ?_⟩
            refine ⟨by (first | omega | with_reducible assumption | (unfold rng; omega) | (unfold rng; (repeat' split) <;> omega)), ?_⟩
            have q36 := rσ.1 60 ((gI σ (ra 59) ((8 * v5) + (gI σ (ra 55) v5.toNat)).toNat).toNat); simp only [rgT] at q36
            have q37 := rσ.1 63 ((gI σ (ra 59) ((8 * v5) + (gI σ (ra 55) v5.toNat)).toNat).toNat); simp only [rgT] at q37
            have L212 : ∀ (fu212 : Nat) (τ212 : Sg) (v11 : Int), Rg ra jx rm τ212 → Fr ra jx rm [20, 26, 40, 41, 42, 44, 45, 46, 47, 48, 49, 54, 55, 56, 57, 60, 61, 62, 63, 64, 65, 68, 69, 70, 71, 72, 73, 74, 75, 76, 77, 78, 81, 82, 83, 84, 85, 86, 87, 88, 89, 97, 98, 99, 100, 101, 102, 103, 104, 105, 106, 107, 108, 109] [21, 27, 32, 66, 67, 79, 80, 90, 91, 92, 93, 96, 113] σ τ212 → (ThH ra rm τ212 (gI σ (ra 59) ((8 * v5) + (gI σ (ra 55) v5.toNat)).toNat) ∧ (RecE ra jx rm ja τ212 ∧ HeE ra rm τ212 ∧ MkI ra jx ja τ212) ∧ LcI ra rm τ212 ∧ (∀ i, gI τ212 (ra 54) i ≤ gI σ (ra 54) i) ∧ 0 ≤ v11 ∧ v11 ≤ 8) → ((8 - v11).toNat) < fu212 → wl_X16_taskTurn_212 ra jx rm Q X fu212 τ212 v1 r30 r32 v5 (gI σ (ra 59) ((8 * v5) + (gI σ (ra 55) v5.toNat)).toNat) (gI σ (ra 60) (gI σ (ra 59) ((8 * v5) + (gI σ (ra 55) v5.toNat)).toNat).toNat) (gJ σ (ra 61) (gI σ (ra 59) ((8 * v5) + (gI σ (ra 55) v5.toNat)).toNat).toNat) (gI σ (ra 63) (gI σ (ra 59) ((8 * v5) + (gI σ (ra 55) v5.toNat)).toNat).toNat) v11 := by
              intro fu212
              induction fu212 with
              | zero => intro τ212 _ _ _ _ h9; omega
              | succ fu212 ih212 =>
                intro τ212 v11 rτ212 fτ212 hi212 hm212
                unfold wl_X16_taskTurn_212
                have eτ212_38 := fτ212.1 38 (by decide)
                have eτ212_52 := fτ212.1 52 (by decide)
                have eτ212_53 := fτ212.1 53 (by decide)
                have eτ212_59 := fτ212.1 59 (by decide)
                have jτ212 := fτ212.2.2.1
                have obτ212 := Fr.ob fτ212 hja (by decide)
                unfold w_X16_taskTurn_212
                try simp only [forall_eq, rII, rIJ, rIP, rJJ, rJI, rJP, rPP, rPI, rPJ, g1, g2, g3, g4, g5, g6, g7, g8, Nat.reduceEqDiff, Nat.reduceAdd, false_and, and_false, true_and, and_true, reduceIte, nZ0, nZ1, eτ212_38.1, eτ212_38.2, eτ212_52.1, eτ212_52.2, eτ212_53.1, eτ212_53.2, eτ212_59.1, eτ212_59.2, fun a k => (jτ212 a k).1, fun a k => (jτ212 a k).2, obτ212]
                obtain ⟨h9, ⟨r9, e9, m9⟩, l9, c9, k1, k2⟩ := hi212
                split
                · rename_i hc216
                  skip
                  unfold w_X16_taskTurn_245
                  try simp only [forall_eq, rII, rIJ, rIP, rJJ, rJI, rJP, rPP, rPI, rPJ, g1, g2, g3, g4, g5, g6, g7, g8, Nat.reduceEqDiff, Nat.reduceAdd, false_and, and_false, true_and, and_true, reduceIte, nZ0, nZ1, eτ212_38.1, eτ212_38.2, eτ212_52.1, eτ212_52.2, eτ212_53.1, eτ212_53.2, eτ212_59.1, eτ212_59.2, fun a k => (jτ212 a k).1, fun a k => (jτ212 a k).2, obτ212]
                  refine s_X16_free g rτ212 h9 (by (try simp only [rII, rIJ, rIP, rJJ, rJI, rJP, rPP, rPI, rPJ, g1, g2, g3, g4, g5, g6, g7, g8, Nat.reduceEqDiff, Nat.reduceAdd, false_and, and_false, true_and, and_true, reduceIte, nZ0, nZ1, eτ212_38.1, eτ212_38.2, eτ212_52.1, eτ212_52.2, eτ212_53.1, eτ212_53.2, eτ212_59.1, eτ212_59.2, fun a k => (jτ212 a k).1, fun a k => (jτ212 a k).2, obτ212]) <;> (first | omega | with_reducible assumption | (unfold rng; omega) | (unfold rng; (repeat' split) <;> omega))) (fun σ58 _ rσ58 fc p38 => ?_)
                  have fσ58 : Fr ra jx rm [20, 26, 40, 41, 42, 44, 45, 46, 47, 48, 49, 54, 55, 56, 57, 60, 61, 62, 63, 64, 65, 68, 69, 70, 71, 72, 73, 74, 75, 76, 77, 78, 81, 82, 83, 84, 85, 86, 87, 88, 89, 97, 98, 99, 100, 101, 102, 103, 104, 105, 106, 107, 108, 109] [21, 27, 32, 66, 67, 79, 80, 90, 91, 92, 93, 96, 113] σ σ58 := Fr.tr fτ212 (Fr.mor (fc) (by decide) (by decide))
                  have t8 := p38
                  have r8 := RecE.fr r9 fc (by decide) (by decide)
                  have e8 := HeE.fr e9 fc (by decide) (by decide)
                  have m8 := MkI.fr m9 fc (by decide)
                  have t9 := t8; have r9 := r8; have e9 := e8; have m9 := m8; clear t8 r8 e8 m8
                  have l9 := LcI.fr l9 fc (by decide) (by decide)
                  have c9 : ∀ i, gI σ58 (ra 54) i ≤ gI σ (ra 54) i := fun i => by rw [(fc.1 54 (by decide)).1]; exact c9 i
                  have eσ58_38 := fσ58.1 38 (by decide)
                  have eσ58_52 := fσ58.1 52 (by decide)
                  have eσ58_53 := fσ58.1 53 (by decide)
                  have eσ58_59 := fσ58.1 59 (by decide)
                  have jσ58 := fσ58.2.2.1
                  have obσ58 := Fr.ob fσ58 hja (by decide)
                  try simp only [forall_eq, rII, rIJ, rIP, rJJ, rJI, rJP, rPP, rPI, rPJ, g1, g2, g3, g4, g5, g6, g7, g8, Nat.reduceEqDiff, Nat.reduceAdd, false_and, and_false, true_and, and_true, reduceIte, nZ0, nZ1, eσ58_38.1, eσ58_38.2, eσ58_52.1, eσ58_52.2, eσ58_53.1, eσ58_53.2, eσ58_59.1, eσ58_59.2, fun a k => (jσ58 a k).1, fun a k => (jσ58 a k).2, obσ58]
                  split
                  · rename_i hc253
                    skip
                    unfold w_X16_taskTurn_275
                    try simp only [forall_eq, rII, rIJ, rIP, rJJ, rJI, rJP, rPP, rPI, rPJ, g1, g2, g3, g4, g5, g6, g7, g8, Nat.reduceEqDiff, Nat.reduceAdd, false_and, and_false, true_and, and_true, reduceIte, nZ0, nZ1, eσ58_38.1, eσ58_38.2, eσ58_52.1, eσ58_52.2, eσ58_53.1, eσ58_53.2, eσ58_59.1, eσ58_59.2, fun a k => (jσ58 a k).1, fun a k => (jσ58 a k).2, obσ58]
                    split
                    · rename_i hc278
                      skip
                      unfold w_X16_taskTurn_295
                      try simp only [forall_eq, rII, rIJ, rIP, rJJ, rJI, rJP, rPP, rPI, rPJ, g1, g2, g3, g4, g5, g6, g7, g8, Nat.reduceEqDiff, Nat.reduceAdd, false_and, and_false, true_and, and_true, reduceIte, nZ0, nZ1, eσ58_38.1, eσ58_38.2, eσ58_52.1, eσ58_52.2, eσ58_53.1, eσ58_53.2, eσ58_59.1, eσ58_59.2, fun a k => (jσ58 a k).1, fun a k => (jσ58 a k).2, obσ58]
                      refine s_X16_takeBarrier g rσ58 (by first | exact hj | (rw [fσ58.2.2.2]; exact hj)) hja r9 t9 e9 m9 (by (try simp only [rII, rIJ, rIP, rJJ, rJI, rJP, rPP, rPI, rPJ, g1, g2, g3, g4, g5, g6, g7, g8, Nat.reduceEqDiff, Nat.reduceAdd, false_and, and_false, true_and, and_true, reduceIte, nZ0, nZ1, eσ58_38.1, eσ58_38.2, eσ58_52.1, eσ58_52.2, eσ58_53.1, eσ58_53.2, eσ58_59.1, eσ58_59.2, fun a k => (jσ58 a k).1, fun a k => (jσ58 a k).2, obσ58]) <;> (first | omega | with_reducible assumption | (unfold rng; omega) | (unfold rng; (repeat' split) <;> omega))) (by (try simp only [rII, rIJ, rIP, rJJ, rJI, rJP, rPP, rPI, rPJ, g1, g2, g3, g4, g5, g6, g7, g8, Nat.reduceEqDiff, Nat.reduceAdd, false_and, and_false, true_and, and_true, reduceIte, nZ0, nZ1, eσ58_38.1, eσ58_38.2, eσ58_52.1, eσ58_52.2, eσ58_53.1, eσ58_53.2, eσ58_59.1, eσ58_59.2, fun a k => (jσ58 a k).1, fun a k => (jσ58 a k).2, obσ58]) <;> (first | omega | with_reducible assumption | (unfold rng; omega) | (unfold rng; (repeat' split) <;> omega))) (by (try simp only [rII, rIJ, rIP, rJJ, rJI, rJP, rPP, rPI, rPJ, g1, g2, g3, g4, g5, g6, g7, g8, Nat.reduceEqDiff, Nat.reduceAdd, false_and, and_false, true_and, and_true, reduceIte, nZ0, nZ1, eσ58_38.1, eσ58_38.2, eσ58_52.1, eσ58_52.2, eσ58_53.1, eσ58_53.2, eσ58_59.1, eσ58_59.2, fun a k => (jσ58 a k).1, fun a k => (jσ58 a k).2, obσ58]) <;> (first | omega | with_reducible assumption | (unfold rng; omega) | (unfold rng; (repeat' split) <;> omega))) (by (try simp only [rII, rIJ, rIP, rJJ, rJI, rJP, rPP, rPI, rPJ, g1, g2, g3, g4, g5, g6, g7, g8, Nat.reduceEqDiff, Nat.reduceAdd, false_and, and_false, true_and, and_true, reduceIte, nZ0, nZ1, eσ58_38.1, eσ58_38.2, eσ58_52.1, eσ58_52.2, eσ58_53.1, eσ58_53.2, eσ58_59.1, eσ58_59.2, fun a k => (jσ58 a k).1, fun a k => (jσ58 a k).2, obσ58]) <;> exact JobOK.fr (K := [20, 26, 40, 41, 42, 44, 45, 46, 47, 48, 49, 54, 55, 56, 57, 60, 61, 62, 63, 64, 65, 68, 69, 70, 71, 72, 73, 74, 75, 76, 77, 78, 81, 82, 83, 84, 85, 86, 87, 88, 89, 97, 98, 99, 100, 101, 102, 103, 104, 105, 106, 107, 108, 109]) (S := [21, 27, 32, 66, 67, 79, 80, 90, 91, 92, 93, 96, 113]) hjo hja (by repeat (first | exact Fr.rf | assumption | refine Fr.aJ g ?_ (by decide) | refine Fr.aI g ?_ (by decide) | refine Fr.sI g ?_ (by decide) | refine Fr.sJ g ?_ (by decide))) (by decide)) (by (try simp only [rII, rIJ, rIP, rJJ, rJI, rJP, rPP, rPI, rPJ, g1, g2, g3, g4, g5, g6, g7, g8, Nat.reduceEqDiff, Nat.reduceAdd, false_and, and_false, true_and, and_true, reduceIte, nZ0, nZ1, eσ58_38.1, eσ58_38.2, eσ58_52.1, eσ58_52.2, eσ58_53.1, eσ58_53.2, eσ58_59.1, eσ58_59.2, fun a k => (jσ58 a k).1, fun a k => (jσ58 a k).2, obσ58]) <;> exact hto) (fun σ59 _ rσ59 fc p39 => ?_) (fun σx E rx fx px => hX _ _ rx (Fr.tr fσ58 (Fr.mor (fx) (by decide) (by decide))) ⟨px.1, ⟨px.2.1, px.2.2.1, px.2.2.2.1, px.2.2.2.2⟩, LcI.fr l9 fx (by decide) (by decide), fun i => by rw [(fx.1 54 (by decide)).1]; exact c9 i⟩)
                      have fσ59 : Fr ra jx rm [20, 26, 40, 41, 42, 44, 45, 46, 47, 48, 49, 54, 55, 56, 57, 60, 61, 62, 63, 64, 65, 68, 69, 70, 71, 72, 73, 74, 75, 76, 77, 78, 81, 82, 83, 84, 85, 86, 87, 88, 89, 97, 98, 99, 100, 101, 102, 103, 104, 105, 106, 107, 108, 109] [21, 27, 32, 66, 67, 79, 80, 90, 91, 92, 93, 96, 113] σ σ59 := Fr.tr fσ58 (Fr.mor (fc) (by decide) (by decide))
                      have t8 := p39.1
                      have r8 := p39.2.1
                      have e8 := p39.2.2.1
                      have m8 := p39.2.2.2
                      have t9 := t8; have r9 := r8; have e9 := e8; have m9 := m8; clear t8 r8 e8 m8
                      have l9 := LcI.fr l9 fc (by decide) (by decide)
                      have c9 : ∀ i, gI σ59 (ra 54) i ≤ gI σ (ra 54) i := fun i => by rw [(fc.1 54 (by decide)).1]; exact c9 i
                      have eσ59_38 := fσ59.1 38 (by decide)
                      have eσ59_52 := fσ59.1 52 (by decide)
                      have eσ59_53 := fσ59.1 53 (by decide)
                      have eσ59_59 := fσ59.1 59 (by decide)
                      have jσ59 := fσ59.2.2.1
                      have obσ59 := Fr.ob fσ59 hja (by decide)
                      try simp only [forall_eq, rII, rIJ, rIP, rJJ, rJI, rJP, rPP, rPI, rPJ, g1, g2, g3, g4, g5, g6, g7, g8, Nat.reduceEqDiff, Nat.reduceAdd, false_and, and_false, true_and, and_true, reduceIte, nZ0, nZ1, eσ59_38.1, eσ59_38.2, eσ59_52.1, eσ59_52.2, eσ59_53.1, eσ59_53.2, eσ59_59.1, eσ59_59.2, fun a k => (jσ59 a k).1, fun a k => (jσ59 a k).2, obσ59]
                      unfold w_X16_taskTurn_304
                      try simp only [forall_eq, rII, rIJ, rIP, rJJ, rJI, rJP, rPP, rPI, rPJ, g1, g2, g3, g4, g5, g6, g7, g8, Nat.reduceEqDiff, Nat.reduceAdd, false_and, and_false, true_and, and_true, reduceIte, nZ0, nZ1, eσ59_38.1, eσ59_38.2, eσ59_52.1, eσ59_52.2, eσ59_53.1, eσ59_53.2, eσ59_59.1, eσ59_59.2, fun a k => (jσ59 a k).1, fun a k => (jσ59 a k).2, obσ59]
                      refine hQ _ _ ?_ ?_ ?_
                      · exact rσ59
                      · exact fσ59
                      · first | exact ⟨⟨t9, r9, e9, m9⟩, l9, c9⟩ | exact ⟨⟨t9, r9, e9, m9⟩, hlc, fun i => Int.le_refl _⟩
                    · rename_i hc278
                      skip
                      unfold w_X16_taskTurn_281
                      try simp only [forall_eq, rII, rIJ, rIP, rJJ, rJI, rJP, rPP, rPI, rPJ, g1, g2, g3, g4, g5, g6, g7, g8, Nat.reduceEqDiff, Nat.reduceAdd, false_and, and_false, true_and, and_true, reduceIte, nZ0, nZ1, eσ58_38.1, eσ58_38.2, eσ58_52.1, eσ58_52.2, eσ58_53.1, eσ58_53.2, eσ58_59.1, eσ58_59.2, fun a k => (jσ58 a k).1, fun a k => (jσ58 a k).2, obσ58]
                      refine s_X16_takeWatermark g rσ58 (by first | exact hj | (rw [fσ58.2.2.2]; exact hj)) hja r9 t9 (by (try simp only [rII, rIJ, rIP, rJJ, rJI, rJP, rPP, rPI, rPJ, g1, g2, g3, g4, g5, g6, g7, g8, Nat.reduceEqDiff, Nat.reduceAdd, false_and, and_false, true_and, and_true, reduceIte, nZ0, nZ1, eσ58_38.1, eσ58_38.2, eσ58_52.1, eσ58_52.2, eσ58_53.1, eσ58_53.2, eσ58_59.1, eσ58_59.2, fun a k => (jσ58 a k).1, fun a k => (jσ58 a k).2, obσ58]) <;> (first | omega | with_reducible assumption | (unfold rng; omega) | (unfold rng; (repeat' split) <;> omega))) (by (try simp only [rII, rIJ, rIP, rJJ, rJI, rJP, rPP, rPI, rPJ, g1, g2, g3, g4, g5, g6, g7, g8, Nat.reduceEqDiff, Nat.reduceAdd, false_and, and_false, true_and, and_true, reduceIte, nZ0, nZ1, eσ58_38.1, eσ58_38.2, eσ58_52.1, eσ58_52.2, eσ58_53.1, eσ58_53.2, eσ58_59.1, eσ58_59.2, fun a k => (jσ58 a k).1, fun a k => (jσ58 a k).2, obσ58]) <;> (first | omega | with_reducible assumption | (unfold rng; omega) | (unfold rng; (repeat' split) <;> omega))) (by exact rσ.2.2.2 61 _) (by (try simp only [rII, rIJ, rIP, rJJ, rJI, rJP, rPP, rPI, rPJ, g1, g2, g3, g4, g5, g6, g7, g8, Nat.reduceEqDiff, Nat.reduceAdd, false_and, and_false, true_and, and_true, reduceIte, nZ0, nZ1, eσ58_38.1, eσ58_38.2, eσ58_52.1, eσ58_52.2, eσ58_53.1, eσ58_53.2, eσ58_59.1, eσ58_59.2, fun a k => (jσ58 a k).1, fun a k => (jσ58 a k).2, obσ58]) <;> (first | omega | with_reducible assumption | (unfold rng; omega) | (unfold rng; (repeat' split) <;> omega))) (by (try simp only [rII, rIJ, rIP, rJJ, rJI, rJP, rPP, rPI, rPJ, g1, g2, g3, g4, g5, g6, g7, g8, Nat.reduceEqDiff, Nat.reduceAdd, false_and, and_false, true_and, and_true, reduceIte, nZ0, nZ1, eσ58_38.1, eσ58_38.2, eσ58_52.1, eσ58_52.2, eσ58_53.1, eσ58_53.2, eσ58_59.1, eσ58_59.2, fun a k => (jσ58 a k).1, fun a k => (jσ58 a k).2, obσ58]) <;> first | exact hp | (rw [(fσ58.2.1 33 (by decide)).1]; exact hp)) (by (try simp only [rII, rIJ, rIP, rJJ, rJI, rJP, rPP, rPI, rPJ, g1, g2, g3, g4, g5, g6, g7, g8, Nat.reduceEqDiff, Nat.reduceAdd, false_and, and_false, true_and, and_true, reduceIte, nZ0, nZ1, eσ58_38.1, eσ58_38.2, eσ58_52.1, eσ58_52.2, eσ58_53.1, eσ58_53.2, eσ58_59.1, eσ58_59.2, fun a k => (jσ58 a k).1, fun a k => (jσ58 a k).2, obσ58]) <;> exact JobOK.fr (K := [20, 26, 40, 41, 42, 44, 45, 46, 47, 48, 49, 54, 55, 56, 57, 60, 61, 62, 63, 64, 65, 68, 69, 70, 71, 72, 73, 74, 75, 76, 77, 78, 81, 82, 83, 84, 85, 86, 87, 88, 89, 97, 98, 99, 100, 101, 102, 103, 104, 105, 106, 107, 108, 109]) (S := [21, 27, 32, 66, 67, 79, 80, 90, 91, 92, 93, 96, 113]) hjo hja (by repeat (first | exact Fr.rf | assumption | refine Fr.aJ g ?_ (by decide) | refine Fr.aI g ?_ (by decide) | refine Fr.sI g ?_ (by decide) | refine Fr.sJ g ?_ (by decide))) (by decide)) (by (try simp only [rII, rIJ, rIP, rJJ, rJI, rJP, rPP, rPI, rPJ, g1, g2, g3, g4, g5, g6, g7, g8, Nat.reduceEqDiff, Nat.reduceAdd, false_and, and_false, true_and, and_true, reduceIte, nZ0, nZ1, eσ58_38.1, eσ58_38.2, eσ58_52.1, eσ58_52.2, eσ58_53.1, eσ58_53.2, eσ58_59.1, eσ58_59.2, fun a k => (jσ58 a k).1, fun a k => (jσ58 a k).2, obσ58]) <;> exact hto) (fun σ60 _ rσ60 fc p40 => ?_) (fun σx E rx fx px => hX _ _ rx (Fr.tr fσ58 (Fr.mor (fx) (by decide) (by decide))) ⟨px.1, ⟨px.2.1, px.2.2, HeE.fr e9 fx (by decide) (by decide), MkI.fr m9 fx (by decide)⟩, LcI.fr l9 fx (by decide) (by decide), fun i => by rw [(fx.1 54 (by decide)).1]; exact c9 i⟩)
                      have fσ60 : Fr ra jx rm [20, 26, 40, 41, 42, 44, 45, 46, 47, 48, 49, 54, 55, 56, 57, 60, 61, 62, 63, 64, 65, 68, 69, 70, 71, 72, 73, 74, 75, 76, 77, 78, 81, 82, 83, 84, 85, 86, 87, 88, 89, 97, 98, 99, 100, 101, 102, 103, 104, 105, 106, 107, 108, 109] [21, 27, 32, 66, 67, 79, 80, 90, 91, 92, 93, 96, 113] σ σ60 := Fr.tr fσ58 (Fr.mor (fc) (by decide) (by decide))
                      have t8 := p40.2
                      have r8 := p40.1
                      have e8 := HeE.fr e9 fc (by decide) (by decide)
                      have m8 := MkI.fr m9 fc (by decide)
                      have t9 := t8; have r9 := r8; have e9 := e8; have m9 := m8; clear t8 r8 e8 m8
                      have l9 := LcI.fr l9 fc (by decide) (by decide)
                      have c9 : ∀ i, gI σ60 (ra 54) i ≤ gI σ (ra 54) i := fun i => by rw [(fc.1 54 (by decide)).1]; exact c9 i
                      have eσ60_38 := fσ60.1 38 (by decide)
                      have eσ60_52 := fσ60.1 52 (by decide)
                      have eσ60_53 := fσ60.1 53 (by decide)
                      have eσ60_59 := fσ60.1 59 (by decide)
                      have jσ60 := fσ60.2.2.1
                      have obσ60 := Fr.ob fσ60 hja (by decide)
                      try simp only [forall_eq, rII, rIJ, rIP, rJJ, rJI, rJP, rPP, rPI, rPJ, g1, g2, g3, g4, g5, g6, g7, g8, Nat.reduceEqDiff, Nat.reduceAdd, false_and, and_false, true_and, and_true, reduceIte, nZ0, nZ1, eσ60_38.1, eσ60_38.2, eσ60_52.1, eσ60_52.2, eσ60_53.1, eσ60_53.2, eσ60_59.1, eσ60_59.2, fun a k => (jσ60 a k).1, fun a k => (jσ60 a k).2, obσ60]
                      unfold w_X16_taskTurn_304
                      try simp only [forall_eq, rII, rIJ, rIP, rJJ, rJI, rJP, rPP, rPI, rPJ, g1, g2, g3, g4, g5, g6, g7, g8, Nat.reduceEqDiff, Nat.reduceAdd, false_and, and_false, true_and, and_true, reduceIte, nZ0, nZ1, eσ60_38.1, eσ60_38.2, eσ60_52.1, eσ60_52.2, eσ60_53.1, eσ60_53.2, eσ60_59.1, eσ60_59.2, fun a k => (jσ60 a k).1, fun a k => (jσ60 a k).2, obσ60]
                      refine hQ _ _ ?_ ?_ ?_
                      · exact rσ60
                      · exact fσ60
                      · first | exact ⟨⟨t9, r9, e9, m9⟩, l9, c9⟩ | exact ⟨⟨t9, r9, e9, m9⟩, hlc, fun i => Int.le_refl _⟩
                  · rename_i hc253
                    skip
                    unfold w_X16_taskTurn_256
                    try simp only [forall_eq, rII, rIJ, rIP, rJJ, rJI, rJP, rPP, rPI, rPJ, g1, g2, g3, g4, g5, g6, g7, g8, Nat.reduceEqDiff, Nat.reduceAdd, false_and, and_false, true_and, and_true, reduceIte, nZ0, nZ1, eσ58_38.1, eσ58_38.2, eσ58_52.1, eσ58_52.2, eσ58_53.1, eσ58_53.2, eσ58_59.1, eσ58_59.2, fun a k => (jσ58 a k).1, fun a k => (jσ58 a k).2, obσ58]
                    refine ⟨by (first | omega | with_reducible assumption | (unfold rng; omega) | (unfold rng; (repeat' split) <;> omega)), ?_⟩
                    have q41 := rσ.1 53 (v5.toNat); simp only [rgT] at q41
                    refine s_X16_takeRow g rσ58 (by first | exact hj | (rw [fσ58.2.2.2]; exact hj)) hja r9 t9 e9 (by (try simp only [rII, rIJ, rIP, rJJ, rJI, rJP, rPP, rPI, rPJ, g1, g2, g3, g4, g5, g6, g7, g8, Nat.reduceEqDiff, Nat.reduceAdd, false_and, and_false, true_and, and_true, reduceIte, nZ0, nZ1, eσ58_38.1, eσ58_38.2, eσ58_52.1, eσ58_52.2, eσ58_53.1, eσ58_53.2, eσ58_59.1, eσ58_59.2, fun a k => (jσ58 a k).1, fun a k => (jσ58 a k).2, obσ58]) <;> (first | omega | with_reducible assumption | (unfold rng; omega) | (unfold rng; (repeat' split) <;> omega))) (by (try simp only [rII, rIJ, rIP, rJJ, rJI, rJP, rPP, rPI, rPJ, g1, g2, g3, g4, g5, g6, g7, g8, Nat.reduceEqDiff, Nat.reduceAdd, false_and, and_false, true_and, and_true, reduceIte, nZ0, nZ1, eσ58_38.1, eσ58_38.2, eσ58_52.1, eσ58_52.2, eσ58_53.1, eσ58_53.2, eσ58_59.1, eσ58_59.2, fun a k => (jσ58 a k).1, fun a k => (jσ58 a k).2, obσ58]) <;> (first | omega | with_reducible assumption | (unfold rng; omega) | (unfold rng; (repeat' split) <;> omega))) (by exact rσ.2.2.2 61 _) (by (try simp only [rII, rIJ, rIP, rJJ, rJI, rJP, rPP, rPI, rPJ, g1, g2, g3, g4, g5, g6, g7, g8, Nat.reduceEqDiff, Nat.reduceAdd, false_and, and_false, true_and, and_true, reduceIte, nZ0, nZ1, eσ58_38.1, eσ58_38.2, eσ58_52.1, eσ58_52.2, eσ58_53.1, eσ58_53.2, eσ58_59.1, eσ58_59.2, fun a k => (jσ58 a k).1, fun a k => (jσ58 a k).2, obσ58]) <;> (first | omega | with_reducible assumption | (unfold rng; omega) | (unfold rng; (repeat' split) <;> omega))) (by (try simp only [rII, rIJ, rIP, rJJ, rJI, rJP, rPP, rPI, rPJ, g1, g2, g3, g4, g5, g6, g7, g8, Nat.reduceEqDiff, Nat.reduceAdd, false_and, and_false, true_and, and_true, reduceIte, nZ0, nZ1, eσ58_38.1, eσ58_38.2, eσ58_52.1, eσ58_52.2, eσ58_53.1, eσ58_53.2, eσ58_59.1, eσ58_59.2, fun a k => (jσ58 a k).1, fun a k => (jσ58 a k).2, obσ58]) <;> first | exact hp | (rw [(fσ58.2.1 33 (by decide)).1]; exact hp)) (by (try simp only [rII, rIJ, rIP, rJJ, rJI, rJP, rPP, rPI, rPJ, g1, g2, g3, g4, g5, g6, g7, g8, Nat.reduceEqDiff, Nat.reduceAdd, false_and, and_false, true_and, and_true, reduceIte, nZ0, nZ1, eσ58_38.1, eσ58_38.2, eσ58_52.1, eσ58_52.2, eσ58_53.1, eσ58_53.2, eσ58_59.1, eσ58_59.2, fun a k => (jσ58 a k).1, fun a k => (jσ58 a k).2, obσ58]) <;> exact JobOK.fr (K := [20, 26, 40, 41, 42, 44, 45, 46, 47, 48, 49, 54, 55, 56, 57, 60, 61, 62, 63, 64, 65, 68, 69, 70, 71, 72, 73, 74, 75, 76, 77, 78, 81, 82, 83, 84, 85, 86, 87, 88, 89, 97, 98, 99, 100, 101, 102, 103, 104, 105, 106, 107, 108, 109]) (S := [21, 27, 32, 66, 67, 79, 80, 90, 91, 92, 93, 96, 113]) hjo hja (by repeat (first | exact Fr.rf | assumption | refine Fr.aJ g ?_ (by decide) | refine Fr.aI g ?_ (by decide) | refine Fr.sI g ?_ (by decide) | refine Fr.sJ g ?_ (by decide))) (by decide)) (by (try simp only [rII, rIJ, rIP, rJJ, rJI, rJP, rPP, rPI, rPJ, g1, g2, g3, g4, g5, g6, g7, g8, Nat.reduceEqDiff, Nat.reduceAdd, false_and, and_false, true_and, and_true, reduceIte, nZ0, nZ1, eσ58_38.1, eσ58_38.2, eσ58_52.1, eσ58_52.2, eσ58_53.1, eσ58_53.2, eσ58_59.1, eσ58_59.2, fun a k => (jσ58 a k).1, fun a k => (jσ58 a k).2, obσ58]) <;> exact hto) (by (try simp only [rII, rIJ, rIP, rJJ, rJI, rJP, rPP, rPI, rPJ, g1, g2, g3, g4, g5, g6, g7, g8, Nat.reduceEqDiff, Nat.reduceAdd, false_and, and_false, true_and, and_true, reduceIte, nZ0, nZ1, eσ58_38.1, eσ58_38.2, eσ58_52.1, eσ58_52.2, eσ58_53.1, eσ58_53.2, eσ58_59.1, eσ58_59.2, fun a k => (jσ58 a k).1, fun a k => (jσ58 a k).2, obσ58]) <;> exact hcy) (by (try simp only [rII, rIJ, rIP, rJJ, rJI, rJP, rPP, rPI, rPJ, g1, g2, g3, g4, g5, g6, g7, g8, Nat.reduceEqDiff, Nat.reduceAdd, false_and, and_false, true_and, and_true, reduceIte, nZ0, nZ1, eσ58_38.1, eσ58_38.2, eσ58_52.1, eσ58_52.2, eσ58_53.1, eσ58_53.2, eσ58_59.1, eσ58_59.2, fun a k => (jσ58 a k).1, fun a k => (jσ58 a k).2, obσ58]) <;> exact hns) (fun σ61 _ rσ61 fc p42 => ?_) (fun σx E rx fx px => hX _ _ rx (Fr.tr fσ58 (Fr.mor (fx) (by decide) (by decide))) ⟨px.1, ⟨px.2.1, px.2.2.1, px.2.2.2, MkI.fr m9 fx (by decide)⟩, LcI.fr l9 fx (by decide) (by decide), fun i => by rw [(fx.1 54 (by decide)).1]; exact c9 i⟩)
                    have fσ61 : Fr ra jx rm [20, 26, 40, 41, 42, 44, 45, 46, 47, 48, 49, 54, 55, 56, 57, 60, 61, 62, 63, 64, 65, 68, 69, 70, 71, 72, 73, 74, 75, 76, 77, 78, 81, 82, 83, 84, 85, 86, 87, 88, 89, 97, 98, 99, 100, 101, 102, 103, 104, 105, 106, 107, 108, 109] [21, 27, 32, 66, 67, 79, 80, 90, 91, 92, 93, 96, 113] σ σ61 := Fr.tr fσ58 (Fr.mor (fc) (by decide) (by decide))
                    have t8 := p42.1
                    have r8 := p42.2.1
                    have e8 := p42.2.2
                    have m8 := MkI.fr m9 fc (by decide)
                    have t9 := t8; have r9 := r8; have e9 := e8; have m9 := m8; clear t8 r8 e8 m8
                    have l9 := LcI.fr l9 fc (by decide) (by decide)
                    have c9 : ∀ i, gI σ61 (ra 54) i ≤ gI σ (ra 54) i := fun i => by rw [(fc.1 54 (by decide)).1]; exact c9 i
                    have eσ61_38 := fσ61.1 38 (by decide)
                    have eσ61_52 := fσ61.1 52 (by decide)
                    have eσ61_53 := fσ61.1 53 (by decide)
                    have eσ61_59 := fσ61.1 59 (by decide)
                    have jσ61 := fσ61.2.2.1
                    have obσ61 := Fr.ob fσ61 hja (by decide)
                    try simp only [forall_eq, rII, rIJ, rIP, rJJ, rJI, rJP, rPP, rPI, rPJ, g1, g2, g3, g4, g5, g6, g7, g8, Nat.reduceEqDiff, Nat.reduceAdd, false_and, and_false, true_and, and_true, reduceIte, nZ0, nZ1, eσ61_38.1, eσ61_38.2, eσ61_52.1, eσ61_52.2, eσ61_53.1, eσ61_53.2, eσ61_59.1, eσ61_59.2, fun a k => (jσ61 a k).1, fun a k => (jσ61 a k).2, obσ61]
                    unfold w_X16_taskTurn_304
                    try simp only [forall_eq, rII, rIJ, rIP, rJJ, rJI, rJP, rPP, rPI, rPJ, g1, g2, g3, g4, g5, g6, g7, g8, Nat.reduceEqDiff, Nat.reduceAdd, false_and, and_false, true_and, and_true, reduceIte, nZ0, nZ1, eσ61_38.1, eσ61_38.2, eσ61_52.1, eσ61_52.2, eσ61_53.1, eσ61_53.2, eσ61_59.1, eσ61_59.2, fun a k => (jσ61 a k).1, fun a k => (jσ61 a k).2, obσ61]
                    refine hQ _ _ ?_ ?_ ?_
                    · exact rσ61
                    · exact fσ61
                    · first | exact ⟨⟨t9, r9, e9, m9⟩, l9, c9⟩ | exact ⟨⟨t9, r9, e9, m9⟩, hlc, fun i => Int.le_refl _⟩
                · rename_i hc216
                  skip
                  unfold w_X16_taskTurn_219
                  try simp only [forall_eq, rII, rIJ, rIP, rJJ, rJI, rJP, rPP, rPI, rPJ, g1, g2, g3, g4, g5, g6, g7, g8, Nat.reduceEqDiff, Nat.reduceAdd, false_and, and_false, true_and, and_true, reduceIte, nZ0, nZ1, eτ212_38.1, eτ212_38.2, eτ212_52.1, eτ212_52.2, eτ212_53.1, eτ212_53.2, eτ212_59.1, eτ212_59.2, fun a k => (jτ212 a k).1, fun a k => (jτ212 a k).2, obτ212]
                  refine ⟨by (first | omega | with_reducible assumption | (unfold rng; omega) | (unfold rng; (repeat' split) <;> omega)), ?_⟩
                  refine ⟨by (first | omega | with_reducible assumption | (unfold rng; omega) | (unfold rng; (repeat' split) <;> omega)), ?_⟩
                  refine ⟨by (first | omega | with_reducible assumption | (unfold rng; omega) | (unfold rng; (repeat' split) <;> omega)), ?_⟩
                  refine ⟨by (first | omega | with_reducible assumption | (unfold rng; omega) | (unfold rng; (repeat' split) <;> omega)), ?_⟩
                  refine ⟨by (first | omega | with_reducible assumption | (unfold rng; omega) | (unfold rng; (repeat' split) <;> omega)), ?_⟩
                  refine ih212 _ _ ?_ ?_ ?_ ?_
                  · refine Rg.aJ g ?_ (by simp only [rlT]; first | with_reducible assumption | omega | exact Int64.toInt_le _ | (rw [Int64.toInt_ofInt_of_le (by omega) (by omega)]; omega) | grind); exact rτ212
                  · refine Fr.aJ g ?_ (by decide); exact fτ212
                  · first | exact ⟨ThH.fr (jx := jx) (K := [81]) (S := []) h9 (by repeat (first | exact Fr.rf | assumption | refine Fr.aJ g ?_ (by decide) | refine Fr.aI g ?_ (by decide) | refine Fr.sI g ?_ (by decide) | refine Fr.sJ g ?_ (by decide))) (by decide) (by decide), ⟨RecE.fr (K := [81]) (S := []) r9 (by repeat (first | exact Fr.rf | assumption | refine Fr.aJ g ?_ (by decide) | refine Fr.aI g ?_ (by decide) | refine Fr.sI g ?_ (by decide) | refine Fr.sJ g ?_ (by decide))) (by decide) (by decide), HeE.fr (jx := jx) (K := [81]) (S := []) e9 (by repeat (first | exact Fr.rf | assumption | refine Fr.aJ g ?_ (by decide) | refine Fr.aI g ?_ (by decide) | refine Fr.sI g ?_ (by decide) | refine Fr.sJ g ?_ (by decide))) (by decide) (by decide), MkI.fr (rm := rm) (K := [81]) (S := []) m9 (by repeat (first | exact Fr.rf | assumption | refine Fr.aJ g ?_ (by decide) | refine Fr.aI g ?_ (by decide) | refine Fr.sI g ?_ (by decide) | refine Fr.sJ g ?_ (by decide))) (by decide)⟩, LcI.fr (jx := jx) (K := [81]) (S := []) l9 (by repeat (first | exact Fr.rf | assumption | refine Fr.aJ g ?_ (by decide) | refine Fr.aI g ?_ (by decide) | refine Fr.sI g ?_ (by decide) | refine Fr.sJ g ?_ (by decide))) (by decide) (by decide), fun i => by (try simp only [rII, rIJ, rIP, rJJ, rJI, rJP, rPP, rPI, rPJ, g1, g2, g3, g4, g5, g6, g7, g8, Nat.reduceEqDiff, Nat.reduceAdd, false_and, and_false, true_and, and_true, reduceIte, nZ0, nZ1, eτ212_38.1, eτ212_38.2, eτ212_52.1, eτ212_52.2, eτ212_53.1, eτ212_53.2, eτ212_59.1, eτ212_59.2, fun a k => (jτ212 a k).1, fun a k => (jτ212 a k).2, obτ212]) <;> exact c9 i, by omega, by omega⟩ | exact ⟨(hti.take (c := v5) (by omega) (by omega) (by omega) (by intros; (try simp only [rII, rIJ, rIP, rJJ, rJI, rJP, rPP, rPI, rPJ, g1, g2, g3, g4, g5, g6, g7, g8, Nat.reduceEqDiff, Nat.reduceAdd, false_and, and_false, true_and, and_true, reduceIte, nZ0, nZ1, eτ212_38.1, eτ212_38.2, eτ212_52.1, eτ212_52.2, eτ212_53.1, eτ212_53.2, eτ212_59.1, eτ212_59.2, fun a k => (jτ212 a k).1, fun a k => (jτ212 a k).2, obτ212]) <;> (repeat' split) <;> first | rfl | omega | grind) (by intros; (try simp only [rII, rIJ, rIP, rJJ, rJI, rJP, rPP, rPI, rPJ, g1, g2, g3, g4, g5, g6, g7, g8, Nat.reduceEqDiff, Nat.reduceAdd, false_and, and_false, true_and, and_true, reduceIte, nZ0, nZ1, eτ212_38.1, eτ212_38.2, eτ212_52.1, eτ212_52.2, eτ212_53.1, eτ212_53.2, eτ212_59.1, eτ212_59.2, fun a k => (jτ212 a k).1, fun a k => (jτ212 a k).2, obτ212]) <;> (repeat' split) <;> first | rfl | omega | grind) (by intros; (try simp only [rII, rIJ, rIP, rJJ, rJI, rJP, rPP, rPI, rPJ, g1, g2, g3, g4, g5, g6, g7, g8, Nat.reduceEqDiff, Nat.reduceAdd, false_and, and_false, true_and, and_true, reduceIte, nZ0, nZ1, eτ212_38.1, eτ212_38.2, eτ212_52.1, eτ212_52.2, eτ212_53.1, eτ212_53.2, eτ212_59.1, eτ212_59.2, fun a k => (jτ212 a k).1, fun a k => (jτ212 a k).2, obτ212]) <;> (repeat' split) <;> first | rfl | omega | grind) (by intros; (try simp only [rII, rIJ, rIP, rJJ, rJI, rJP, rPP, rPI, rPJ, g1, g2, g3, g4, g5, g6, g7, g8, Nat.reduceEqDiff, Nat.reduceAdd, false_and, and_false, true_and, and_true, reduceIte, nZ0, nZ1, eτ212_38.1, eτ212_38.2, eτ212_52.1, eτ212_52.2, eτ212_53.1, eτ212_53.2, eτ212_59.1, eτ212_59.2, fun a k => (jτ212 a k).1, fun a k => (jτ212 a k).2, obτ212]) <;> (repeat' split) <;> first | rfl | omega | grind) (by intros; (try simp only [rII, rIJ, rIP, rJJ, rJI, rJP, rPP, rPI, rPJ, g1, g2, g3, g4, g5, g6, g7, g8, Nat.reduceEqDiff, Nat.reduceAdd, false_and, and_false, true_and, and_true, reduceIte, nZ0, nZ1, eτ212_38.1, eτ212_38.2, eτ212_52.1, eτ212_52.2, eτ212_53.1, eτ212_53.2, eτ212_59.1, eτ212_59.2, fun a k => (jτ212 a k).1, fun a k => (jτ212 a k).2, obτ212]) <;> (repeat' split) <;> first | rfl | omega | grind) (by intros; (try simp only [rII, rIJ, rIP, rJJ, rJI, rJP, rPP, rPI, rPJ, g1, g2, g3, g4, g5, g6, g7, g8, Nat.reduceEqDiff, Nat.reduceAdd, false_and, and_false, true_and, and_true, reduceIte, nZ0, nZ1, eτ212_38.1, eτ212_38.2, eτ212_52.1, eτ212_52.2, eτ212_53.1, eτ212_53.2, eτ212_59.1, eτ212_59.2, fun a k => (jτ212 a k).1, fun a k => (jτ212 a k).2, obτ212]) <;> (repeat' split) <;> first | rfl | omega | grind) (by intros; (try simp only [rII, rIJ, rIP, rJJ, rJI, rJP, rPP, rPI, rPJ, g1, g2, g3, g4, g5, g6, g7, g8, Nat.reduceEqDiff, Nat.reduceAdd, false_and, and_false, true_and, and_true, reduceIte, nZ0, nZ1, eτ212_38.1, eτ212_38.2, eτ212_52.1, eτ212_52.2, eτ212_53.1, eτ212_53.2, eτ212_59.1, eτ212_59.2, fun a k => (jτ212 a k).1, fun a k => (jτ212 a k).2, obτ212]) <;> (repeat' split) <;> first | rfl | omega | grind) (by intros; (try simp only [rII, rIJ, rIP, rJJ, rJI, rJP, rPP, rPI, rPJ, g1, g2, g3, g4, g5, g6, g7, g8, Nat.reduceEqDiff, Nat.reduceAdd, false_and, and_false, true_and, and_true, reduceIte, nZ0, nZ1, eτ212_38.1, eτ212_38.2, eτ212_52.1, eτ212_52.2, eτ212_53.1, eτ212_53.2, eτ212_59.1, eτ212_59.2, fun a k => (jτ212 a k).1, fun a k => (jτ212 a k).2, obτ212]) <;> (repeat' split) <;> first | rfl | omega | grind)).1, ⟨RecE.fr (K := [41, 45, 54, 55]) (S := [113]) r9 (by repeat (first | exact Fr.rf | assumption | refine Fr.aJ g ?_ (by decide) | refine Fr.aI g ?_ (by decide) | refine Fr.sI g ?_ (by decide) | refine Fr.sJ g ?_ (by decide))) (by decide) (by decide), HeE.fr (jx := jx) (K := [41, 45, 54, 55]) (S := [113]) e9 (by repeat (first | exact Fr.rf | assumption | refine Fr.aJ g ?_ (by decide) | refine Fr.aI g ?_ (by decide) | refine Fr.sI g ?_ (by decide) | refine Fr.sJ g ?_ (by decide))) (by decide) (by decide), MkI.fr (rm := rm) (K := [41, 45, 54, 55]) (S := [113]) m9 (by repeat (first | exact Fr.rf | assumption | refine Fr.aJ g ?_ (by decide) | refine Fr.aI g ?_ (by decide) | refine Fr.sI g ?_ (by decide) | refine Fr.sJ g ?_ (by decide))) (by decide)⟩, LcI.up hlc (t := v1) (c := v5) (by omega) ⟨by omega, hin.1⟩ hin.2 (by intros; (try simp only [rII, rIJ, rIP, rJJ, rJI, rJP, rPP, rPI, rPJ, g1, g2, g3, g4, g5, g6, g7, g8, Nat.reduceEqDiff, Nat.reduceAdd, false_and, and_false, true_and, and_true, reduceIte, nZ0, nZ1, eτ212_38.1, eτ212_38.2, eτ212_52.1, eτ212_52.2, eτ212_53.1, eτ212_53.2, eτ212_59.1, eτ212_59.2, fun a k => (jτ212 a k).1, fun a k => (jτ212 a k).2, obτ212]) <;> (repeat' split) <;> first | rfl | omega | grind) (by funext a9; (try simp only [rII, rIJ, rIP, rJJ, rJI, rJP, rPP, rPI, rPJ, g1, g2, g3, g4, g5, g6, g7, g8, Nat.reduceEqDiff, Nat.reduceAdd, false_and, and_false, true_and, and_true, reduceIte, nZ0, nZ1, eτ212_38.1, eτ212_38.2, eτ212_52.1, eτ212_52.2, eτ212_53.1, eτ212_53.2, eτ212_59.1, eτ212_59.2, fun a k => (jτ212 a k).1, fun a k => (jτ212 a k).2, obτ212]) <;> first | rfl | omega | grind) (by intros; (try simp only [rII, rIJ, rIP, rJJ, rJI, rJP, rPP, rPI, rPJ, g1, g2, g3, g4, g5, g6, g7, g8, Nat.reduceEqDiff, Nat.reduceAdd, false_and, and_false, true_and, and_true, reduceIte, nZ0, nZ1, eτ212_38.1, eτ212_38.2, eτ212_52.1, eτ212_52.2, eτ212_53.1, eτ212_53.2, eτ212_59.1, eτ212_59.2, fun a k => (jτ212 a k).1, fun a k => (jτ212 a k).2, obτ212]) <;> (repeat' split) <;> first | rfl | omega | grind), (by intros; (try simp only [rII, rIJ, rIP, rJJ, rJI, rJP, rPP, rPI, rPJ, g1, g2, g3, g4, g5, g6, g7, g8, Nat.reduceEqDiff, Nat.reduceAdd, false_and, and_false, true_and, and_true, reduceIte, nZ0, nZ1, eτ212_38.1, eτ212_38.2, eτ212_52.1, eτ212_52.2, eτ212_53.1, eτ212_53.2, eτ212_59.1, eτ212_59.2, fun a k => (jτ212 a k).1, fun a k => (jτ212 a k).2, obτ212]) <;> (repeat' split) <;> first | rfl | omega | grind), by omega, by omega⟩
                  · (try simp only [rII, rIJ, rIP, rJJ, rJI, rJP, rPP, rPI, rPJ, g1, g2, g3, g4, g5, g6, g7, g8, Nat.reduceEqDiff, Nat.reduceAdd, false_and, and_false, true_and, and_true, reduceIte, nZ0, nZ1, eτ212_38.1, eτ212_38.2, eτ212_52.1, eτ212_52.2, eτ212_53.1, eτ212_53.2, eτ212_59.1, eτ212_59.2, fun a k => (jτ212 a k).1, fun a k => (jτ212 a k).2, obτ212]) <;> (first | omega | with_reducible assumption | (unfold rng; omega) | (unfold rng; (repeat' split) <;> omega))
            refine ⟨_, L212 _ _ _ ?_ ?_ ?_ (Nat.lt_succ_self _)⟩
            · refine Rg.sI g ?_ (by simp only [rgS]; first | with_reducible exact nZ_rng _ | with_reducible exact nB_rng _ | with_reducible exact wr_rng _ | with_reducible exact i32any _ | (first | omega | with_reducible assumption | (unfold rng; omega) | (unfold rng; (repeat' split) <;> omega))); refine Rg.aI g ?_ (by simp only [rgT]; first | with_reducible exact nZ_rng _ | with_reducible exact nB_rng _ | with_reducible exact wr_rng _ | with_reducible exact i32any _ | (first | omega | with_reducible assumption | (unfold rng; omega) | (unfold rng; (repeat' split) <;> omega))); refine Rg.aI g ?_ (by simp only [rgT]; first | with_reducible exact nZ_rng _ | with_reducible exact nB_rng _ | with_reducible exact wr_rng _ | with_reducible exact i32any _ | (first | omega | with_reducible assumption | (unfold rng; omega) | (unfold rng; (repeat' split) <;> omega))); refine Rg.aI g ?_ (by simp only [rgT]; first | with_reducible exact nZ_rng _ | with_reducible exact nB_rng _ | with_reducible exact wr_rng _ | with_reducible exact i32any _ | (first | omega | with_reducible assumption | (unfold rng; omega) | (unfold rng; (repeat' split) <;> omega))); refine Rg.aI g ?_ (by simp only [rgT]; first | with_reducible exact nZ_rng _ | with_reducible exact nB_rng _ | with_reducible exact wr_rng _ | with_reducible exact i32any _ | (first | omega | with_reducible assumption | (unfold rng; omega) | (unfold rng; (repeat' split) <;> omega))); exact rσ
            · refine Fr.sI g ?_ (by decide); refine Fr.aI g ?_ (by decide); refine Fr.aI g ?_ (by decide); refine Fr.aI g ?_ (by decide); refine Fr.aI g ?_ (by decide); exact fσ
            · first | exact ⟨ThH.fr (jx := jx) (K := [81]) (S := []) h9 (by repeat (first | exact Fr.rf | assumption | refine Fr.aJ g ?_ (by decide) | refine Fr.aI g ?_ (by decide) | refine Fr.sI g ?_ (by decide) | refine Fr.sJ g ?_ (by decide))) (by decide) (by decide), ⟨RecE.fr (K := [81]) (S := []) r9 (by repeat (first | exact Fr.rf | assumption | refine Fr.aJ g ?_ (by decide) | refine Fr.aI g ?_ (by decide) | refine Fr.sI g ?_ (by decide) | refine Fr.sJ g ?_ (by decide))) (by decide) (by decide), HeE.fr (jx := jx) (K := [81]) (S := []) e9 (by repeat (first | exact Fr.rf | assumption | refine Fr.aJ g ?_ (by decide) | refine Fr.aI g ?_ (by decide) | refine Fr.sI g ?_ (by decide) | refine Fr.sJ g ?_ (by decide))) (by decide) (by decide), MkI.fr (rm := rm) (K := [81]) (S := []) m9 (by repeat (first | exact Fr.rf | assumption | refine Fr.aJ g ?_ (by decide) | refine Fr.aI g ?_ (by decide) | refine Fr.sI g ?_ (by decide) | refine Fr.sJ g ?_ (by decide))) (by decide)⟩, LcI.fr (jx := jx) (K := [81]) (S := []) l9 (by repeat (first | exact Fr.rf | assumption | refine Fr.aJ g ?_ (by decide) | refine Fr.aI g ?_ (by decide) | refine Fr.sI g ?_ (by decide) | refine Fr.sJ g ?_ (by decide))) (by decide) (by decide), fun i => by (try simp only [rII, rIJ, rIP, rJJ, rJI, rJP, rPP, rPI, rPJ, g1, g2, g3, g4, g5, g6, g7, g8, Nat.reduceEqDiff, Nat.reduceAdd, false_and, and_false, true_and, and_true, reduceIte, nZ0, nZ1]) <;> exact c9 i, by omega, by omega⟩ | exact ⟨(hti.take (c := v5) (by omega) (by omega) (by omega) (by intros; (try simp only [rII, rIJ, rIP, rJJ, rJI, rJP, rPP, rPI, rPJ, g1, g2, g3, g4, g5, g6, g7, g8, Nat.reduceEqDiff, Nat.reduceAdd, false_and, and_false, true_and, and_true, reduceIte, nZ0, nZ1]) <;> (repeat' split) <;> first | rfl | omega | grind) (by intros; (try simp only [rII, rIJ, rIP, rJJ, rJI, rJP, rPP, rPI, rPJ, g1, g2, g3, g4, g5, g6, g7, g8, Nat.reduceEqDiff, Nat.reduceAdd, false_and, and_false, true_and, and_true, reduceIte, nZ0, nZ1]) <;> (repeat' split) <;> first | rfl | omega | grind) (by intros; (try simp only [rII, rIJ, rIP, rJJ, rJI, rJP, rPP, rPI, rPJ, g1, g2, g3, g4, g5, g6, g7, g8, Nat.reduceEqDiff, Nat.reduceAdd, false_and, and_false, true_and, and_true, reduceIte, nZ0, nZ1]) <;> (repeat' split) <;> first | rfl | omega | grind) (by intros; (try simp only [rII, rIJ, rIP, rJJ, rJI, rJP, rPP, rPI, rPJ, g1, g2, g3, g4, g5, g6, g7, g8, Nat.reduceEqDiff, Nat.reduceAdd, false_and, and_false, true_and, and_true, reduceIte, nZ0, nZ1]) <;> (repeat' split) <;> first | rfl | omega | grind) (by intros; (try simp only [rII, rIJ, rIP, rJJ, rJI, rJP, rPP, rPI, rPJ, g1, g2, g3, g4, g5, g6, g7, g8, Nat.reduceEqDiff, Nat.reduceAdd, false_and, and_false, true_and, and_true, reduceIte, nZ0, nZ1]) <;> (repeat' split) <;> first | rfl | omega | grind) (by intros; (try simp only [rII, rIJ, rIP, rJJ, rJI, rJP, rPP, rPI, rPJ, g1, g2, g3, g4, g5, g6, g7, g8, Nat.reduceEqDiff, Nat.reduceAdd, false_and, and_false, true_and, and_true, reduceIte, nZ0, nZ1]) <;> (repeat' split) <;> first | rfl | omega | grind) (by intros; (try simp only [rII, rIJ, rIP, rJJ, rJI, rJP, rPP, rPI, rPJ, g1, g2, g3, g4, g5, g6, g7, g8, Nat.reduceEqDiff, Nat.reduceAdd, false_and, and_false, true_and, and_true, reduceIte, nZ0, nZ1]) <;> (repeat' split) <;> first | rfl | omega | grind) (by intros; (try simp only [rII, rIJ, rIP, rJJ, rJI, rJP, rPP, rPI, rPJ, g1, g2, g3, g4, g5, g6, g7, g8, Nat.reduceEqDiff, Nat.reduceAdd, false_and, and_false, true_and, and_true, reduceIte, nZ0, nZ1]) <;> (repeat' split) <;> first | rfl | omega | grind)).1, ⟨RecE.fr (K := [41, 45, 54, 55]) (S := [113]) r9 (by repeat (first | exact Fr.rf | assumption | refine Fr.aJ g ?_ (by decide) | refine Fr.aI g ?_ (by decide) | refine Fr.sI g ?_ (by decide) | refine Fr.sJ g ?_ (by decide))) (by decide) (by decide), HeE.fr (jx := jx) (K := [41, 45, 54, 55]) (S := [113]) e9 (by repeat (first | exact Fr.rf | assumption | refine Fr.aJ g ?_ (by decide) | refine Fr.aI g ?_ (by decide) | refine Fr.sI g ?_ (by decide) | refine Fr.sJ g ?_ (by decide))) (by decide) (by decide), MkI.fr (rm := rm) (K := [41, 45, 54, 55]) (S := [113]) m9 (by repeat (first | exact Fr.rf | assumption | refine Fr.aJ g ?_ (by decide) | refine Fr.aI g ?_ (by decide) | refine Fr.sI g ?_ (by decide) | refine Fr.sJ g ?_ (by decide))) (by decide)⟩, LcI.up hlc (t := v1) (c := v5) (by omega) ⟨by omega, hin.1⟩ hin.2 (by intros; (try simp only [rII, rIJ, rIP, rJJ, rJI, rJP, rPP, rPI, rPJ, g1, g2, g3, g4, g5, g6, g7, g8, Nat.reduceEqDiff, Nat.reduceAdd, false_and, and_false, true_and, and_true, reduceIte, nZ0, nZ1]) <;> (repeat' split) <;> first | rfl | omega | grind) (by funext a9; (try simp only [rII, rIJ, rIP, rJJ, rJI, rJP, rPP, rPI, rPJ, g1, g2, g3, g4, g5, g6, g7, g8, Nat.reduceEqDiff, Nat.reduceAdd, false_and, and_false, true_and, and_true, reduceIte, nZ0, nZ1]) <;> first | rfl | omega | grind) (by intros; (try simp only [rII, rIJ, rIP, rJJ, rJI, rJP, rPP, rPI, rPJ, g1, g2, g3, g4, g5, g6, g7, g8, Nat.reduceEqDiff, Nat.reduceAdd, false_and, and_false, true_and, and_true, reduceIte, nZ0, nZ1]) <;> (repeat' split) <;> first | rfl | omega | grind), (by intros; (try simp only [rII, rIJ, rIP, rJJ, rJI, rJP, rPP, rPI, rPJ, g1, g2, g3, g4, g5, g6, g7, g8, Nat.reduceEqDiff, Nat.reduceAdd, false_and, and_false, true_and, and_true, reduceIte, nZ0, nZ1]) <;> (repeat' split) <;> first | rfl | omega | grind), by omega, by omega⟩
          · rename_i hc104
            skip
            unfold w_X16_taskTurn_107
            try simp only [forall_eq, rII, rIJ, rIP, rJJ, rJI, rJP, rPP, rPI, rPJ, g1, g2, g3, g4, g5, g6, g7, g8, Nat.reduceEqDiff, Nat.reduceAdd, false_and, and_false, true_and, and_true, reduceIte, nZ0, nZ1]
            refine hQ _ _ ?_ ?_ ?_
            · exact rσ
            · exact fσ
            · first | exact ⟨⟨t9, r9, e9, m9⟩, l9, c9⟩ | exact ⟨⟨t9, r9, e9, m9⟩, hlc, fun i => Int.le_refl _⟩
        · rename_i hc45
          skip
          unfold w_X16_taskTurn_48
          try simp only [forall_eq, rII, rIJ, rIP, rJJ, rJI, rJP, rPP, rPI, rPJ, g1, g2, g3, g4, g5, g6, g7, g8, Nat.reduceEqDiff, Nat.reduceAdd, false_and, and_false, true_and, and_true, reduceIte, nZ0, nZ1]
          split
          · rename_i hc51
            skip
            unfold w_X16_taskTurn_101
            try simp only [forall_eq, rII, rIJ, rIP, rJJ, rJI, rJP, rPP, rPI, rPJ, g1, g2, g3, g4, g5, g6, g7, g8, Nat.reduceEqDiff, Nat.reduceAdd, false_and, and_false, true_and, and_true, reduceIte, nZ0, nZ1]
            rw [if_pos hc51]
            unfold w_X16_taskTurn_109
            try simp only [forall_eq, rII, rIJ, rIP, rJJ, rJI, rJP, rPP, rPI, rPJ, g1, g2, g3, g4, g5, g6, g7, g8, Nat.reduceEqDiff, Nat.reduceAdd, false_and, and_false, true_and, and_true, reduceIte, nZ0, nZ1]
            have hc5 := hi42.2.2.resolve_left (by assumption)
            have hin := hly.mid pf.1 pf.2.1 pf.2.2 hc5.1 (by rw [← pn.1]; exact hc5.2.1)
            have hcy := (hly.2.1 v5.toNat (by omega)).2
            rw [hin.2] at hcy
            have h54 := rσ.1 54 v5.toNat; simp only [rgT] at h54
            have h55 := rσ.1 55 v5.toNat; simp only [rgT] at h55
            have h50 := rσ.2.1 50; simp only [rgS] at h50
            refine ⟨by (first | omega | with_reducible assumption | (unfold rng; omega) | (unfold rng; (repeat' split) <;> omega)), ?_⟩
            refine ⟨by (first | omega | with_reducible assumption | (unfold rng; omega) | (unfold rng; (repeat' split) <;> omega)), ?_⟩
            refine ⟨by (first | omega | with_reducible assumption | (unfold rng; omega) | (unfold rng; (repeat' split) <;> omega)), ?_⟩
            have q43 := rσ.1 55 (v5.toNat); simp only [rgT] at q43
            refine ⟨by (first | omega | with_reducible assumption | (unfold rng; omega) | (unfold rng; (repeat' split) <;> omega)), ?_⟩
            refine ⟨by (first | omega | with_reducible assumption | (unfold rng; omega) | (unfold rng; (repeat' split) <;> omega)), ?_⟩
            refine ⟨by (first | omega | with_reducible assumption | (unfold rng; omega) | (unfold rng; (repeat' split) <;> omega)), ?_⟩
            refine ⟨by (first | omega | with_reducible assumption | (unfold rng; omega) | (unfold rng; (repeat' split) <;> omega)), ?_⟩
            refine ⟨by (first | omega | with_reducible assumption | (unfold rng; omega) | (unfold rng; (repeat' split) <;> omega)), ?_⟩
            have q44 := remI_eq (x := ((gI σ (ra 55) v5.toNat) + 1)) (y := 8) (by (first | omega | with_reducible assumption | (unfold rng; omega) | (unfold rng; (repeat' split) <;> omega))) (by (first | omega | with_reducible assumption | (unfold rng; omega) | (unfold rng; (repeat' split) <;> omega)))
            refine ⟨by (first | omega | with_reducible assumption | (unfold rng; omega) | (unfold rng; (repeat' split) <;> omega)), ?_⟩
            have q45 := rσ.1 54 (v5.toNat); simp only [rgT] at q45
            refine ⟨by (first | omega | with_reducible assumption | (unfold rng; omega) | (unfold rng; (repeat' split) <;> omega)), ?_⟩
            refine ⟨by (first | omega | with_reducible assumption | (unfold rng; omega) | (unfold rng; (repeat' split) <;> omega)), ?_⟩
            refine ⟨by (first | omega | with_reducible assumption | (unfold rng; omega) | (unfold rng; (repeat' split) <;> omega)), ?_⟩
            refine ⟨by (first | omega | with_reducible assumption | (unfold rng; omega) | (unfold rng; (repeat' split) <;> omega)), ?_⟩
            have q46 := rσ.1 41 (v1.toNat); simp only [rgT] at q46
            have q47 := rσ.1 59 (((8 * v5) + (gI σ (ra 55) v5.toNat)).toNat); simp only [rgT] at q47
            refine ⟨by (first | omega | with_reducible assumption | (unfold rng; omega) | (unfold rng; (repeat' split) <;> omega)), ?_⟩
            refine ⟨by (first | omega | with_reducible assumption | (unfold rng; omega) | (unfold rng; (repeat' split) <;> omega)), ?_⟩
            refine ⟨by (first | omega | with_reducible assumption | (unfold rng; omega) | (unfold rng; (repeat' split) <;> omega)), ?_⟩
            have q48 := rσ.1 60 ((gI σ (ra 59) ((8 * v5) + (gI σ (ra 55) v5.toNat)).toNat).toNat); simp only [rgT] at q48
            have q49 := rσ.1 63 ((gI σ (ra 59) ((8 * v5) + (gI σ (ra 55) v5.toNat)).toNat).toNat); simp only [rgT] at q49
            have L212 : ∀ (fu212 : Nat) (τ212 : Sg) (v11 : Int), Rg ra jx rm τ212 → Fr ra jx rm [20, 26, 40, 41, 42, 44, 45, 46, 47, 48, 49, 54, 55, 56, 57, 60, 61, 62, 63, 64, 65, 68, 69, 70, 71, 72, 73, 74, 75, 76, 77, 78, 81, 82, 83, 84, 85, 86, 87, 88, 89, 97, 98, 99, 100, 101, 102, 103, 104, 105, 106, 107, 108, 109] [21, 27, 32, 66, 67, 79, 80, 90, 91, 92, 93, 96, 113] σ τ212 → (ThH ra rm τ212 (gI σ (ra 59) ((8 * v5) + (gI σ (ra 55) v5.toNat)).toNat) ∧ (RecE ra jx rm ja τ212 ∧ HeE ra rm τ212 ∧ MkI ra jx ja τ212) ∧ LcI ra rm τ212 ∧ (∀ i, gI τ212 (ra 54) i ≤ gI σ (ra 54) i) ∧ 0 ≤ v11 ∧ v11 ≤ 8) → ((8 - v11).toNat) < fu212 → wl_X16_taskTurn_212 ra jx rm Q X fu212 τ212 v1 r30 r32 v5 (gI σ (ra 59) ((8 * v5) + (gI σ (ra 55) v5.toNat)).toNat) (gI σ (ra 60) (gI σ (ra 59) ((8 * v5) + (gI σ (ra 55) v5.toNat)).toNat).toNat) (gJ σ (ra 61) (gI σ (ra 59) ((8 * v5) + (gI σ (ra 55) v5.toNat)).toNat).toNat) (gI σ (ra 63) (gI σ (ra 59) ((8 * v5) + (gI σ (ra 55) v5.toNat)).toNat).toNat) v11 := by
              intro fu212
              induction fu212 with
              | zero => intro τ212 _ _ _ _ h9; omega
              | succ fu212 ih212 =>
                intro τ212 v11 rτ212 fτ212 hi212 hm212
                unfold wl_X16_taskTurn_212
                have eτ212_38 := fτ212.1 38 (by decide)
                have eτ212_52 := fτ212.1 52 (by decide)
                have eτ212_53 := fτ212.1 53 (by decide)
                have eτ212_59 := fτ212.1 59 (by decide)
                have jτ212 := fτ212.2.2.1
                have obτ212 := Fr.ob fτ212 hja (by decide)
                unfold w_X16_taskTurn_212
                try simp only [forall_eq, rII, rIJ, rIP, rJJ, rJI, rJP, rPP, rPI, rPJ, g1, g2, g3, g4, g5, g6, g7, g8, Nat.reduceEqDiff, Nat.reduceAdd, false_and, and_false, true_and, and_true, reduceIte, nZ0, nZ1, eτ212_38.1, eτ212_38.2, eτ212_52.1, eτ212_52.2, eτ212_53.1, eτ212_53.2, eτ212_59.1, eτ212_59.2, fun a k => (jτ212 a k).1, fun a k => (jτ212 a k).2, obτ212]
                obtain ⟨h9, ⟨r9, e9, m9⟩, l9, c9, k1, k2⟩ := hi212
                split
                · rename_i hc216
                  skip
                  unfold w_X16_taskTurn_245
                  try simp only [forall_eq, rII, rIJ, rIP, rJJ, rJI, rJP, rPP, rPI, rPJ, g1, g2, g3, g4, g5, g6, g7, g8, Nat.reduceEqDiff, Nat.reduceAdd, false_and, and_false, true_and, and_true, reduceIte, nZ0, nZ1, eτ212_38.1, eτ212_38.2, eτ212_52.1, eτ212_52.2, eτ212_53.1, eτ212_53.2, eτ212_59.1, eτ212_59.2, fun a k => (jτ212 a k).1, fun a k => (jτ212 a k).2, obτ212]
                  refine s_X16_free g rτ212 h9 (by (try simp only [rII, rIJ, rIP, rJJ, rJI, rJP, rPP, rPI, rPJ, g1, g2, g3, g4, g5, g6, g7, g8, Nat.reduceEqDiff, Nat.reduceAdd, false_and, and_false, true_and, and_true, reduceIte, nZ0, nZ1, eτ212_38.1, eτ212_38.2, eτ212_52.1, eτ212_52.2, eτ212_53.1, eτ212_53.2, eτ212_59.1, eτ212_59.2, fun a k => (jτ212 a k).1, fun a k => (jτ212 a k).2, obτ212]) <;> (first | omega | with_reducible assumption | (unfold rng; omega) | (unfold rng; (repeat' split) <;> omega))) (fun σ68 _ rσ68 fc p50 => ?_)
                  have fσ68 : Fr ra jx rm [20, 26, 40, 41, 42, 44, 45, 46, 47, 48, 49, 54, 55, 56, 57, 60, 61, 62, 63, 64, 65, 68, 69, 70, 71, 72, 73, 74, 75, 76, 77, 78, 81, 82, 83, 84, 85, 86, 87, 88, 89, 97, 98, 99, 100, 101, 102, 103, 104, 105, 106, 107, 108, 109] [21, 27, 32, 66, 67, 79, 80, 90, 91, 92, 93, 96, 113] σ σ68 := Fr.tr fτ212 (Fr.mor (fc) (by decide) (by decide))
                  have t8 := p50
                  have r8 := RecE.fr r9 fc (by decide) (by decide)
                  have e8 := HeE.fr e9 fc (by decide) (by decide)
                  have m8 := MkI.fr m9 fc (by decide)
                  have t9 := t8; have r9 := r8; have e9 := e8; have m9 := m8; clear t8 r8 e8 m8
                  have l9 := LcI.fr l9 fc (by decide) (by decide)
                  have c9 : ∀ i, gI σ68 (ra 54) i ≤ gI σ (ra 54) i := fun i => by rw [(fc.1 54 (by decide)).1]; exact c9 i
                  have eσ68_38 := fσ68.1 38 (by decide)
                  have eσ68_52 := fσ68.1 52 (by decide)
                  have eσ68_53 := fσ68.1 53 (by decide)
                  have eσ68_59 := fσ68.1 59 (by decide)
                  have jσ68 := fσ68.2.2.1
                  have obσ68 := Fr.ob fσ68 hja (by decide)
                  try simp only [forall_eq, rII, rIJ, rIP, rJJ, rJI, rJP, rPP, rPI, rPJ, g1, g2, g3, g4, g5, g6, g7, g8, Nat.reduceEqDiff, Nat.reduceAdd, false_and, and_false, true_and, and_true, reduceIte, nZ0, nZ1, eσ68_38.1, eσ68_38.2, eσ68_52.1, eσ68_52.2, eσ68_53.1, eσ68_53.2, eσ68_59.1, eσ68_59.2, fun a k => (jσ68 a k).1, fun a k => (jσ68 a k).2, obσ68]
                  split
                  · rename_i hc253
                    skip
                    unfold w_X16_taskTurn_275
                    try simp only [forall_eq, rII, rIJ, rIP, rJJ, rJI, rJP, rPP, rPI, rPJ, g1, g2, g3, g4, g5, g6, g7, g8, Nat.reduceEqDiff, Nat.reduceAdd, false_and, and_false, true_and, and_true, reduceIte, nZ0, nZ1, eσ68_38.1, eσ68_38.2, eσ68_52.1, eσ68_52.2, eσ68_53.1, eσ68_53.2, eσ68_59.1, eσ68_59.2, fun a k => (jσ68 a k).1, fun a k => (jσ68 a k).2, obσ68]
                    split
                    · rename_i hc278
                      skip
                      unfold w_X16_taskTurn_295
                      try simp only [forall_eq, rII, rIJ, rIP, rJJ, rJI, rJP, rPP, rPI, rPJ, g1, g2, g3, g4, g5, g6, g7, g8, Nat.reduceEqDiff, Nat.reduceAdd, false_and, and_false, true_and, and_true, reduceIte, nZ0, nZ1, eσ68_38.1, eσ68_38.2, eσ68_52.1, eσ68_52.2, eσ68_53.1, eσ68_53.2, eσ68_59.1, eσ68_59.2, fun a k => (jσ68 a k).1, fun a k => (jσ68 a k).2, obσ68]
                      refine s_X16_takeBarrier g rσ68 (by first | exact hj | (rw [fσ68.2.2.2]; exact hj)) hja r9 t9 e9 m9 (by (try simp only [rII, rIJ, rIP, rJJ, rJI, rJP, rPP, rPI, rPJ, g1, g2, g3, g4, g5, g6, g7, g8, Nat.reduceEqDiff, Nat.reduceAdd, false_and, and_false, true_and, and_true, reduceIte, nZ0, nZ1, eσ68_38.1, eσ68_38.2, eσ68_52.1, eσ68_52.2, eσ68_53.1, eσ68_53.2, eσ68_59.1, eσ68_59.2, fun a k => (jσ68 a k).1, fun a k => (jσ68 a k).2, obσ68]) <;> (first | omega | with_reducible assumption | (unfold rng; omega) | (unfold rng; (repeat' split) <;> omega))) (by (try simp only [rII, rIJ, rIP, rJJ, rJI, rJP, rPP, rPI, rPJ, g1, g2, g3, g4, g5, g6, g7, g8, Nat.reduceEqDiff, Nat.reduceAdd, false_and, and_false, true_and, and_true, reduceIte, nZ0, nZ1, eσ68_38.1, eσ68_38.2, eσ68_52.1, eσ68_52.2, eσ68_53.1, eσ68_53.2, eσ68_59.1, eσ68_59.2, fun a k => (jσ68 a k).1, fun a k => (jσ68 a k).2, obσ68]) <;> (first | omega | with_reducible assumption | (unfold rng; omega) | (unfold rng; (repeat' split) <;> omega))) (by (try simp only [rII, rIJ, rIP, rJJ, rJI, rJP, rPP, rPI, rPJ, g1, g2, g3, g4, g5, g6, g7, g8, Nat.reduceEqDiff, Nat.reduceAdd, false_and, and_false, true_and, and_true, reduceIte, nZ0, nZ1, eσ68_38.1, eσ68_38.2, eσ68_52.1, eσ68_52.2, eσ68_53.1, eσ68_53.2, eσ68_59.1, eσ68_59.2, fun a k => (jσ68 a k).1, fun a k => (jσ68 a k).2, obσ68]) <;> (first | omega | with_reducible assumption | (unfold rng; omega) | (unfold rng; (repeat' split) <;> omega))) (by (try simp only [rII, rIJ, rIP, rJJ, rJI, rJP, rPP, rPI, rPJ, g1, g2, g3, g4, g5, g6, g7, g8, Nat.reduceEqDiff, Nat.reduceAdd, false_and, and_false, true_and, and_true, reduceIte, nZ0, nZ1, eσ68_38.1, eσ68_38.2, eσ68_52.1, eσ68_52.2, eσ68_53.1, eσ68_53.2, eσ68_59.1, eσ68_59.2, fun a k => (jσ68 a k).1, fun a k => (jσ68 a k).2, obσ68]) <;> exact JobOK.fr (K := [20, 26, 40, 41, 42, 44, 45, 46, 47, 48, 49, 54, 55, 56, 57, 60, 61, 62, 63, 64, 65, 68, 69, 70, 71, 72, 73, 74, 75, 76, 77, 78, 81, 82, 83, 84, 85, 86, 87, 88, 89, 97, 98, 99, 100, 101, 102, 103, 104, 105, 106, 107, 108, 109]) (S := [21, 27, 32, 66, 67, 79, 80, 90, 91, 92, 93, 96, 113]) hjo hja (by repeat (first | exact Fr.rf | assumption | refine Fr.aJ g ?_ (by decide) | refine Fr.aI g ?_ (by decide) | refine Fr.sI g ?_ (by decide) | refine Fr.sJ g ?_ (by decide))) (by decide)) (by (try simp only [rII, rIJ, rIP, rJJ, rJI, rJP, rPP, rPI, rPJ, g1, g2, g3, g4, g5, g6, g7, g8, Nat.reduceEqDiff, Nat.reduceAdd, false_and, and_false, true_and, and_true, reduceIte, nZ0, nZ1, eσ68_38.1, eσ68_38.2, eσ68_52.1, eσ68_52.2, eσ68_53.1, eσ68_53.2, eσ68_59.1, eσ68_59.2, fun a k => (jσ68 a k).1, fun a k => (jσ68 a k).2, obσ68]) <;> exact hto) (fun σ69 _ rσ69 fc p51 => ?_) (fun σx E rx fx px => hX _ _ rx (Fr.tr fσ68 (Fr.mor (fx) (by decide) (by decide))) ⟨px.1, ⟨px.2.1, px.2.2.1, px.2.2.2.1, px.2.2.2.2⟩, LcI.fr l9 fx (by decide) (by decide), fun i => by rw [(fx.1 54 (by decide)).1]; exact c9 i⟩)
                      have fσ69 : Fr ra jx rm [20, 26, 40, 41, 42, 44, 45, 46, 47, 48, 49, 54, 55, 56, 57, 60, 61, 62, 63, 64, 65, 68, 69, 70, 71, 72, 73, 74, 75, 76, 77, 78, 81, 82, 83, 84, 85, 86, 87, 88, 89, 97, 98, 99, 100, 101, 102, 103, 104, 105, 106, 107, 108, 109] [21, 27, 32, 66, 67, 79, 80, 90, 91, 92, 93, 96, 113] σ σ69 := Fr.tr fσ68 (Fr.mor (fc) (by decide) (by decide))
                      have t8 := p51.1
                      have r8 := p51.2.1
                      have e8 := p51.2.2.1
                      have m8 := p51.2.2.2
                      have t9 := t8; have r9 := r8; have e9 := e8; have m9 := m8; clear t8 r8 e8 m8
                      have l9 := LcI.fr l9 fc (by decide) (by decide)
                      have c9 : ∀ i, gI σ69 (ra 54) i ≤ gI σ (ra 54) i := fun i => by rw [(fc.1 54 (by decide)).1]; exact c9 i
                      have eσ69_38 := fσ69.1 38 (by decide)
                      have eσ69_52 := fσ69.1 52 (by decide)
                      have eσ69_53 := fσ69.1 53 (by decide)
                      have eσ69_59 := fσ69.1 59 (by decide)
                      have jσ69 := fσ69.2.2.1
                      have obσ69 := Fr.ob fσ69 hja (by decide)
                      try simp only [forall_eq, rII, rIJ, rIP, rJJ, rJI, rJP, rPP, rPI, rPJ, g1, g2, g3, g4, g5, g6, g7, g8, Nat.reduceEqDiff, Nat.reduceAdd, false_and, and_false, true_and, and_true, reduceIte, nZ0, nZ1, eσ69_38.1, eσ69_38.2, eσ69_52.1, eσ69_52.2, eσ69_53.1, eσ69_53.2, eσ69_59.1, eσ69_59.2, fun a k => (jσ69 a k).1, fun a k => (jσ69 a k).2, obσ69]
                      unfold w_X16_taskTurn_304
                      try simp only [forall_eq, rII, rIJ, rIP, rJJ, rJI, rJP, rPP, rPI, rPJ, g1, g2, g3, g4, g5, g6, g7, g8, Nat.reduceEqDiff, Nat.reduceAdd, false_and, and_false, true_and, and_true, reduceIte, nZ0, nZ1, eσ69_38.1, eσ69_38.2, eσ69_52.1, eσ69_52.2, eσ69_53.1, eσ69_53.2, eσ69_59.1, eσ69_59.2, fun a k => (jσ69 a k).1, fun a k => (jσ69 a k).2, obσ69]
                      refine hQ _ _ ?_ ?_ ?_
                      · exact rσ69
                      · exact fσ69
                      · first | exact ⟨⟨t9, r9, e9, m9⟩, l9, c9⟩ | exact ⟨⟨t9, r9, e9, m9⟩, hlc, fun i => Int.le_refl _⟩
                    · rename_i hc278
                      skip
                      unfold w_X16_taskTurn_281
                      try simp only [forall_eq, rII, rIJ, rIP, rJJ, rJI, rJP, rPP, rPI, rPJ, g1, g2, g3, g4, g5, g6, g7, g8, Nat.reduceEqDiff, Nat.reduceAdd, false_and, and_false, true_and, and_true, reduceIte, nZ0, nZ1, eσ68_38.1, eσ68_38.2, eσ68_52.1, eσ68_52.2, eσ68_53.1, eσ68_53.2, eσ68_59.1, eσ68_59.2, fun a k => (jσ68 a k).1, fun a k => (jσ68 a k).2, obσ68]
                      refine s_X16_takeWatermark g rσ68 (by first | exact hj | (rw [fσ68.2.2.2]; exact hj)) hja r9 t9 (by (try simp only [rII, rIJ, rIP, rJJ, rJI, rJP, rPP, rPI, rPJ, g1, g2, g3, g4, g5, g6, g7, g8, Nat.reduceEqDiff, Nat.reduceAdd, false_and, and_false, true_and, and_true, reduceIte, nZ0, nZ1, eσ68_38.1, eσ68_38.2, eσ68_52.1, eσ68_52.2, eσ68_53.1, eσ68_53.2, eσ68_59.1, eσ68_59.2, fun a k => (jσ68 a k).1, fun a k => (jσ68 a k).2, obσ68]) <;> (first | omega | with_reducible assumption | (unfold rng; omega) | (unfold rng; (repeat' split) <;> omega))) (by (try simp only [rII, rIJ, rIP, rJJ, rJI, rJP, rPP, rPI, rPJ, g1, g2, g3, g4, g5, g6, g7, g8, Nat.reduceEqDiff, Nat.reduceAdd, false_and, and_false, true_and, and_true, reduceIte, nZ0, nZ1, eσ68_38.1, eσ68_38.2, eσ68_52.1, eσ68_52.2, eσ68_53.1, eσ68_53.2, eσ68_59.1, eσ68_59.2, fun a k => (jσ68 a k).1, fun a k => (jσ68 a k).2, obσ68]) <;> (first | omega | with_reducible assumption | (unfold rng; omega) | (unfold rng; (repeat' split) <;> omega))) (by exact rσ.2.2.2 61 _) (by (try simp only [rII, rIJ, rIP, rJJ, rJI, rJP, rPP, rPI, rPJ, g1, g2, g3, g4, g5, g6, g7, g8, Nat.reduceEqDiff, Nat.reduceAdd, false_and, and_false, true_and, and_true, reduceIte, nZ0, nZ1, eσ68_38.1, eσ68_38.2, eσ68_52.1, eσ68_52.2, eσ68_53.1, eσ68_53.2, eσ68_59.1, eσ68_59.2, fun a k => (jσ68 a k).1, fun a k => (jσ68 a k).2, obσ68]) <;> (first | omega | with_reducible assumption | (unfold rng; omega) | (unfold rng; (repeat' split) <;> omega))) (by (try simp only [rII, rIJ, rIP, rJJ, rJI, rJP, rPP, rPI, rPJ, g1, g2, g3, g4, g5, g6, g7, g8, Nat.reduceEqDiff, Nat.reduceAdd, false_and, and_false, true_and, and_true, reduceIte, nZ0, nZ1, eσ68_38.1, eσ68_38.2, eσ68_52.1, eσ68_52.2, eσ68_53.1, eσ68_53.2, eσ68_59.1, eσ68_59.2, fun a k => (jσ68 a k).1, fun a k => (jσ68 a k).2, obσ68]) <;> first | exact hp | (rw [(fσ68.2.1 33 (by decide)).1]; exact hp)) (by (try simp only [rII, rIJ, rIP, rJJ, rJI, rJP, rPP, rPI, rPJ, g1, g2, g3, g4, g5, g6, g7, g8, Nat.reduceEqDiff, Nat.reduceAdd, false_and, and_false, true_and, and_true, reduceIte, nZ0, nZ1, eσ68_38.1, eσ68_38.2, eσ68_52.1, eσ68_52.2, eσ68_53.1, eσ68_53.2, eσ68_59.1, eσ68_59.2, fun a k => (jσ68 a k).1, fun a k => (jσ68 a k).2, obσ68]) <;> exact JobOK.fr (K := [20, 26, 40, 41, 42, 44, 45, 46, 47, 48, 49, 54, 55, 56, 57, 60, 61, 62, 63, 64, 65, 68, 69, 70, 71, 72, 73, 74, 75, 76, 77, 78, 81, 82, 83, 84, 85, 86, 87, 88, 89, 97, 98, 99, 100, 101, 102, 103, 104, 105, 106, 107, 108, 109]) (S := [21, 27, 32, 66, 67, 79, 80, 90, 91, 92, 93, 96, 113]) hjo hja (by repeat (first | exact Fr.rf | assumption | refine Fr.aJ g ?_ (by decide) | refine Fr.aI g ?_ (by decide) | refine Fr.sI g ?_ (by decide) | refine Fr.sJ g ?_ (by decide))) (by decide)) (by (try simp only [rII, rIJ, rIP, rJJ, rJI, rJP, rPP, rPI, rPJ, g1, g2, g3, g4, g5, g6, g7, g8, Nat.reduceEqDiff, Nat.reduceAdd, false_and, and_false, true_and, and_true, reduceIte, nZ0, nZ1, eσ68_38.1, eσ68_38.2, eσ68_52.1, eσ68_52.2, eσ68_53.1, eσ68_53.2, eσ68_59.1, eσ68_59.2, fun a k => (jσ68 a k).1, fun a k => (jσ68 a k).2, obσ68]) <;> exact hto) (fun σ70 _ rσ70 fc p52 => ?_) (fun σx E rx fx px => hX _ _ rx (Fr.tr fσ68 (Fr.mor (fx) (by decide) (by decide))) ⟨px.1, ⟨px.2.1, px.2.2, HeE.fr e9 fx (by decide) (by decide), MkI.fr m9 fx (by decide)⟩, LcI.fr l9 fx (by decide) (by decide), fun i => by rw [(fx.1 54 (by decide)).1]; exact c9 i⟩)
                      have fσ70 : Fr ra jx rm [20, 26, 40, 41, 42, 44, 45, 46, 47, 48, 49, 54, 55, 56, 57, 60, 61, 62, 63, 64, 65, 68, 69, 70, 71, 72, 73, 74, 75, 76, 77, 78, 81, 82, 83, 84, 85, 86, 87, 88, 89, 97, 98, 99, 100, 101, 102, 103, 104, 105, 106, 107, 108, 109] [21, 27, 32, 66, 67, 79, 80, 90, 91, 92, 93, 96, 113] σ σ70 := Fr.tr fσ68 (Fr.mor (fc) (by decide) (by decide))
                      have t8 := p52.2
                      have r8 := p52.1
                      have e8 := HeE.fr e9 fc (by decide) (by decide)
                      have m8 := MkI.fr m9 fc (by decide)
                      have t9 := t8; have r9 := r8; have e9 := e8; have m9 := m8; clear t8 r8 e8 m8
                      have l9 := LcI.fr l9 fc (by decide) (by decide)
                      have c9 : ∀ i, gI σ70 (ra 54) i ≤ gI σ (ra 54) i := fun i => by rw [(fc.1 54 (by decide)).1]; exact c9 i
                      have eσ70_38 := fσ70.1 38 (by decide)
                      have eσ70_52 := fσ70.1 52 (by decide)
                      have eσ70_53 := fσ70.1 53 (by decide)
                      have eσ70_59 := fσ70.1 59 (by decide)
                      have jσ70 := fσ70.2.2.1
                      have obσ70 := Fr.ob fσ70 hja (by decide)
                      try simp only [forall_eq, rII, rIJ, rIP, rJJ, rJI, rJP, rPP, rPI, rPJ, g1, g2, g3, g4, g5, g6, g7, g8, Nat.reduceEqDiff, Nat.reduceAdd, false_and, and_false, true_and, and_true, reduceIte, nZ0, nZ1, eσ70_38.1, eσ70_38.2, eσ70_52.1, eσ70_52.2, eσ70_53.1, eσ70_53.2, eσ70_59.1, eσ70_59.2, fun a k => (jσ70 a k).1, fun a k => (jσ70 a k).2, obσ70]
                      unfold w_X16_taskTurn_304
                      try simp only [forall_eq, rII, rIJ, rIP, rJJ, rJI, rJP, rPP, rPI, rPJ, g1, g2, g3, g4, g5, g6, g7, g8, Nat.reduceEqDiff, Nat.reduceAdd, false_and, and_false, true_and, and_true, reduceIte, nZ0, nZ1, eσ70_38.1, eσ70_38.2, eσ70_52.1, eσ70_52.2, eσ70_53.1, eσ70_53.2, eσ70_59.1, eσ70_59.2, fun a k => (jσ70 a k).1, fun a k => (jσ70 a k).2, obσ70]
                      refine hQ _ _ ?_ ?_ ?_
                      · exact rσ70
                      · exact fσ70
                      · first | exact ⟨⟨t9, r9, e9, m9⟩, l9, c9⟩ | exact ⟨⟨t9, r9, e9, m9⟩, hlc, fun i => Int.le_refl _⟩
                  · rename_i hc253
                    skip
                    unfold w_X16_taskTurn_256
                    try simp only [forall_eq, rII, rIJ, rIP, rJJ, rJI, rJP, rPP, rPI, rPJ, g1, g2, g3, g4, g5, g6, g7, g8, Nat.reduceEqDiff, Nat.reduceAdd, false_and, and_false, true_and, and_true, reduceIte, nZ0, nZ1, eσ68_38.1, eσ68_38.2, eσ68_52.1, eσ68_52.2, eσ68_53.1, eσ68_53.2, eσ68_59.1, eσ68_59.2, fun a k => (jσ68 a k).1, fun a k => (jσ68 a k).2, obσ68]
                    refine ⟨by (first | omega | with_reducible assumption | (unfold rng; omega) | (unfold rng; (repeat' split) <;> omega)), ?_⟩
                    have q53 := rσ.1 53 (v5.toNat); simp only [rgT] at q53
                    refine s_X16_takeRow g rσ68 (by first | exact hj | (rw [fσ68.2.2.2]; exact hj)) hja r9 t9 e9 (by (try simp only [rII, rIJ, rIP, rJJ, rJI, rJP, rPP, rPI, rPJ, g1, g2, g3, g4, g5, g6, g7, g8, Nat.reduceEqDiff, Nat.reduceAdd, false_and, and_false, true_and, and_true, reduceIte, nZ0, nZ1, eσ68_38.1, eσ68_38.2, eσ68_52.1, eσ68_52.2, eσ68_53.1, eσ68_53.2, eσ68_59.1, eσ68_59.2, fun a k => (jσ68 a k).1, fun a k => (jσ68 a k).2, obσ68]) <;> (first | omega | with_reducible assumption | (unfold rng; omega) | (unfold rng; (repeat' split) <;> omega))) (by (try simp only [rII, rIJ, rIP, rJJ, rJI, rJP, rPP, rPI, rPJ, g1, g2, g3, g4, g5, g6, g7, g8, Nat.reduceEqDiff, Nat.reduceAdd, false_and, and_false, true_and, and_true, reduceIte, nZ0, nZ1, eσ68_38.1, eσ68_38.2, eσ68_52.1, eσ68_52.2, eσ68_53.1, eσ68_53.2, eσ68_59.1, eσ68_59.2, fun a k => (jσ68 a k).1, fun a k => (jσ68 a k).2, obσ68]) <;> (first | omega | with_reducible assumption | (unfold rng; omega) | (unfold rng; (repeat' split) <;> omega))) (by exact rσ.2.2.2 61 _) (by (try simp only [rII, rIJ, rIP, rJJ, rJI, rJP, rPP, rPI, rPJ, g1, g2, g3, g4, g5, g6, g7, g8, Nat.reduceEqDiff, Nat.reduceAdd, false_and, and_false, true_and, and_true, reduceIte, nZ0, nZ1, eσ68_38.1, eσ68_38.2, eσ68_52.1, eσ68_52.2, eσ68_53.1, eσ68_53.2, eσ68_59.1, eσ68_59.2, fun a k => (jσ68 a k).1, fun a k => (jσ68 a k).2, obσ68]) <;> (first | omega | with_reducible assumption | (unfold rng; omega) | (unfold rng; (repeat' split) <;> omega))) (by (try simp only [rII, rIJ, rIP, rJJ, rJI, rJP, rPP, rPI, rPJ, g1, g2, g3, g4, g5, g6, g7, g8, Nat.reduceEqDiff, Nat.reduceAdd, false_and, and_false, true_and, and_true, reduceIte, nZ0, nZ1, eσ68_38.1, eσ68_38.2, eσ68_52.1, eσ68_52.2, eσ68_53.1, eσ68_53.2, eσ68_59.1, eσ68_59.2, fun a k => (jσ68 a k).1, fun a k => (jσ68 a k).2, obσ68]) <;> first | exact hp | (rw [(fσ68.2.1 33 (by decide)).1]; exact hp)) (by (try simp only [rII, rIJ, rIP, rJJ, rJI, rJP, rPP, rPI, rPJ, g1, g2, g3, g4, g5, g6, g7, g8, Nat.reduceEqDiff, Nat.reduceAdd, false_and, and_false, true_and, and_true, reduceIte, nZ0, nZ1, eσ68_38.1, eσ68_38.2, eσ68_52.1, eσ68_52.2, eσ68_53.1, eσ68_53.2, eσ68_59.1, eσ68_59.2, fun a k => (jσ68 a k).1, fun a k => (jσ68 a k).2, obσ68]) <;> exact JobOK.fr (K := [20, 26, 40, 41, 42, 44, 45, 46, 47, 48, 49, 54, 55, 56, 57, 60, 61, 62, 63, 64, 65, 68, 69, 70, 71, 72, 73, 74, 75, 76, 77, 78, 81, 82, 83, 84, 85, 86, 87, 88, 89, 97, 98, 99, 100, 101, 102, 103, 104, 105, 106, 107, 108, 109]) (S := [21, 27, 32, 66, 67, 79, 80, 90, 91, 92, 93, 96, 113]) hjo hja (by repeat (first | exact Fr.rf | assumption | refine Fr.aJ g ?_ (by decide) | refine Fr.aI g ?_ (by decide) | refine Fr.sI g ?_ (by decide) | refine Fr.sJ g ?_ (by decide))) (by decide)) (by (try simp only [rII, rIJ, rIP, rJJ, rJI, rJP, rPP, rPI, rPJ, g1, g2, g3, g4, g5, g6, g7, g8, Nat.reduceEqDiff, Nat.reduceAdd, false_and, and_false, true_and, and_true, reduceIte, nZ0, nZ1, eσ68_38.1, eσ68_38.2, eσ68_52.1, eσ68_52.2, eσ68_53.1, eσ68_53.2, eσ68_59.1, eσ68_59.2, fun a k => (jσ68 a k).1, fun a k => (jσ68 a k).2, obσ68]) <;> exact hto) (by (try simp only [rII, rIJ, rIP, rJJ, rJI, rJP, rPP, rPI, rPJ, g1, g2, g3, g4, g5, g6, g7, g8, Nat.reduceEqDiff, Nat.reduceAdd, false_and, and_false, true_and, and_true, reduceIte, nZ0, nZ1, eσ68_38.1, eσ68_38.2, eσ68_52.1, eσ68_52.2, eσ68_53.1, eσ68_53.2, eσ68_59.1, eσ68_59.2, fun a k => (jσ68 a k).1, fun a k => (jσ68 a k).2, obσ68]) <;> exact hcy) (by (try simp only [rII, rIJ, rIP, rJJ, rJI, rJP, rPP, rPI, rPJ, g1, g2, g3, g4, g5, g6, g7, g8, Nat.reduceEqDiff, Nat.reduceAdd, false_and, and_false, true_and, and_true, reduceIte, nZ0, nZ1, eσ68_38.1, eσ68_38.2, eσ68_52.1, eσ68_52.2, eσ68_53.1, eσ68_53.2, eσ68_59.1, eσ68_59.2, fun a k => (jσ68 a k).1, fun a k => (jσ68 a k).2, obσ68]) <;> exact hns) (fun σ71 _ rσ71 fc p54 => ?_) (fun σx E rx fx px => hX _ _ rx (Fr.tr fσ68 (Fr.mor (fx) (by decide) (by decide))) ⟨px.1, ⟨px.2.1, px.2.2.1, px.2.2.2, MkI.fr m9 fx (by decide)⟩, LcI.fr l9 fx (by decide) (by decide), fun i => by rw [(fx.1 54 (by decide)).1]; exact c9 i⟩)
                    have fσ71 : Fr ra jx rm [20, 26, 40, 41, 42, 44, 45, 46, 47, 48, 49, 54, 55, 56, 57, 60, 61, 62, 63, 64, 65, 68, 69, 70, 71, 72, 73, 74, 75, 76, 77, 78, 81, 82, 83, 84, 85, 86, 87, 88, 89, 97, 98, 99, 100, 101, 102, 103, 104, 105, 106, 107, 108, 109] [21, 27, 32, 66, 67, 79, 80, 90, 91, 92, 93, 96, 113] σ σ71 := Fr.tr fσ68 (Fr.mor (fc) (by decide) (by decide))
                    have t8 := p54.1
                    have r8 := p54.2.1
                    have e8 := p54.2.2
                    have m8 := MkI.fr m9 fc (by decide)
                    have t9 := t8; have r9 := r8; have e9 := e8; have m9 := m8; clear t8 r8 e8 m8
                    have l9 := LcI.fr l9 fc (by decide) (by decide)
                    have c9 : ∀ i, gI σ71 (ra 54) i ≤ gI σ (ra 54) i := fun i => by rw [(fc.1 54 (by decide)).1]; exact c9 i
                    have eσ71_38 := fσ71.1 38 (by decide)
                    have eσ71_52 := fσ71.1 52 (by decide)
                    have eσ71_53 := fσ71.1 53 (by decide)
                    have eσ71_59 := fσ71.1 59 (by decide)
                    have jσ71 := fσ71.2.2.1
                    have obσ71 := Fr.ob fσ71 hja (by decide)
                    try simp only [forall_eq, rII, rIJ, rIP, rJJ, rJI, rJP, rPP, rPI, rPJ, g1, g2, g3, g4, g5, g6, g7, g8, Nat.reduceEqDiff, Nat.reduceAdd, false_and, and_false, true_and, and_true, reduceIte, nZ0, nZ1, eσ71_38.1, eσ71_38.2, eσ71_52.1, eσ71_52.2, eσ71_53.1, eσ71_53.2, eσ71_59.1, eσ71_59.2, fun a k => (jσ71 a k).1, fun a k => (jσ71 a k).2, obσ71]
                    unfold w_X16_taskTurn_304
                    try simp only [forall_eq, rII, rIJ, rIP, rJJ, rJI, rJP, rPP, rPI, rPJ, g1, g2, g3, g4, g5, g6, g7, g8, Nat.reduceEqDiff, Nat.reduceAdd, false_and, and_false, true_and, and_true, reduceIte, nZ0, nZ1, eσ71_38.1, eσ71_38.2, eσ71_52.1, eσ71_52.2, eσ71_53.1, eσ71_53.2, eσ71_59.1, eσ71_59.2, fun a k => (jσ71 a k).1, fun a k => (jσ71 a k).2, obσ71]
                    refine hQ _ _ ?_ ?_ ?_
                    · exact rσ71
                    · exact fσ71
                    · first | exact ⟨⟨t9, r9, e9, m9⟩, l9, c9⟩ | exact ⟨⟨t9, r9, e9, m9⟩, hlc, fun i => Int.le_refl _⟩
                · rename_i hc216
                  skip
                  unfold w_X16_taskTurn_219
                  try simp only [forall_eq, rII, rIJ, rIP, rJJ, rJI, rJP, rPP, rPI, rPJ, g1, g2, g3, g4, g5, g6, g7, g8, Nat.reduceEqDiff, Nat.reduceAdd, false_and, and_false, true_and, and_true, reduceIte, nZ0, nZ1, eτ212_38.1, eτ212_38.2, eτ212_52.1, eτ212_52.2, eτ212_53.1, eτ212_53.2, eτ212_59.1, eτ212_59.2, fun a k => (jτ212 a k).1, fun a k => (jτ212 a k).2, obτ212]
                  refine ⟨by (first | omega | with_reducible assumption | (unfold rng; omega) | (unfold rng; (repeat' split) <;> omega)), ?_⟩
                  refine ⟨by (first | omega | with_reducible assumption | (unfold rng; omega) | (unfold rng; (repeat' split) <;> omega)), ?_⟩
                  refine ⟨by (first | omega | with_reducible assumption | (unfold rng; omega) | (unfold rng; (repeat' split) <;> omega)), ?_⟩
                  refine ⟨by (first | omega | with_reducible assumption | (unfold rng; omega) | (unfold rng; (repeat' split) <;> omega)), ?_⟩
                  refine ⟨by (first | omega | with_reducible assumption | (unfold rng; omega) | (unfold rng; (repeat' split) <;> omega)), ?_⟩
                  refine ih212 _ _ ?_ ?_ ?_ ?_
                  · refine Rg.aJ g ?_ (by simp only [rlT]; first | with_reducible assumption | omega | exact Int64.toInt_le _ | (rw [Int64.toInt_ofInt_of_le (by omega) (by omega)]; omega) | grind); exact rτ212
                  · refine Fr.aJ g ?_ (by decide); exact fτ212
                  · first | exact ⟨ThH.fr (jx := jx) (K := [81]) (S := []) h9 (by repeat (first | exact Fr.rf | assumption | refine Fr.aJ g ?_ (by decide) | refine Fr.aI g ?_ (by decide) | refine Fr.sI g ?_ (by decide) | refine Fr.sJ g ?_ (by decide))) (by decide) (by decide), ⟨RecE.fr (K := [81]) (S := []) r9 (by repeat (first | exact Fr.rf | assumption | refine Fr.aJ g ?_ (by decide) | refine Fr.aI g ?_ (by decide) | refine Fr.sI g ?_ (by decide) | refine Fr.sJ g ?_ (by decide))) (by decide) (by decide), HeE.fr (jx := jx) (K := [81]) (S := []) e9 (by repeat (first | exact Fr.rf | assumption | refine Fr.aJ g ?_ (by decide) | refine Fr.aI g ?_ (by decide) | refine Fr.sI g ?_ (by decide) | refine Fr.sJ g ?_ (by decide))) (by decide) (by decide), MkI.fr (rm := rm) (K := [81]) (S := []) m9 (by repeat (first | exact Fr.rf | assumption | refine Fr.aJ g ?_ (by decide) | refine Fr.aI g ?_ (by decide) | refine Fr.sI g ?_ (by decide) | refine Fr.sJ g ?_ (by decide))) (by decide)⟩, LcI.fr (jx := jx) (K := [81]) (S := []) l9 (by repeat (first | exact Fr.rf | assumption | refine Fr.aJ g ?_ (by decide) | refine Fr.aI g ?_ (by decide) | refine Fr.sI g ?_ (by decide) | refine Fr.sJ g ?_ (by decide))) (by decide) (by decide), fun i => by (try simp only [rII, rIJ, rIP, rJJ, rJI, rJP, rPP, rPI, rPJ, g1, g2, g3, g4, g5, g6, g7, g8, Nat.reduceEqDiff, Nat.reduceAdd, false_and, and_false, true_and, and_true, reduceIte, nZ0, nZ1, eτ212_38.1, eτ212_38.2, eτ212_52.1, eτ212_52.2, eτ212_53.1, eτ212_53.2, eτ212_59.1, eτ212_59.2, fun a k => (jτ212 a k).1, fun a k => (jτ212 a k).2, obτ212]) <;> exact c9 i, by omega, by omega⟩ | exact ⟨(hti.take (c := v5) (by omega) (by omega) (by omega) (by intros; (try simp only [rII, rIJ, rIP, rJJ, rJI, rJP, rPP, rPI, rPJ, g1, g2, g3, g4, g5, g6, g7, g8, Nat.reduceEqDiff, Nat.reduceAdd, false_and, and_false, true_and, and_true, reduceIte, nZ0, nZ1, eτ212_38.1, eτ212_38.2, eτ212_52.1, eτ212_52.2, eτ212_53.1, eτ212_53.2, eτ212_59.1, eτ212_59.2, fun a k => (jτ212 a k).1, fun a k => (jτ212 a k).2, obτ212]) <;> (repeat' split) <;> first | rfl | omega | grind) (by intros; (try simp only [rII, rIJ, rIP, rJJ, rJI, rJP, rPP, rPI, rPJ, g1, g2, g3, g4, g5, g6, g7, g8, Nat.reduceEqDiff, Nat.reduceAdd, false_and, and_false, true_and, and_true, reduceIte, nZ0, nZ1, eτ212_38.1, eτ212_38.2, eτ212_52.1, eτ212_52.2, eτ212_53.1, eτ212_53.2, eτ212_59.1, eτ212_59.2, fun a k => (jτ212 a k).1, fun a k => (jτ212 a k).2, obτ212]) <;> (repeat' split) <;> first | rfl | omega | grind) (by intros; (try simp only [rII, rIJ, rIP, rJJ, rJI, rJP, rPP, rPI, rPJ, g1, g2, g3, g4, g5, g6, g7, g8, Nat.reduceEqDiff, Nat.reduceAdd, false_and, and_false, true_and, and_true, reduceIte, nZ0, nZ1, eτ212_38.1, eτ212_38.2, eτ212_52.1, eτ212_52.2, eτ212_53.1, eτ212_53.2, eτ212_59.1, eτ212_59.2, fun a k => (jτ212 a k).1, fun a k => (jτ212 a k).2, obτ212]) <;> (repeat' split) <;> first | rfl | omega | grind) (by intros; (try simp only [rII, rIJ, rIP, rJJ, rJI, rJP, rPP, rPI, rPJ, g1, g2, g3, g4, g5, g6, g7, g8, Nat.reduceEqDiff, Nat.reduceAdd, false_and, and_false, true_and, and_true, reduceIte, nZ0, nZ1, eτ212_38.1, eτ212_38.2, eτ212_52.1, eτ212_52.2, eτ212_53.1, eτ212_53.2, eτ212_59.1, eτ212_59.2, fun a k => (jτ212 a k).1, fun a k => (jτ212 a k).2, obτ212]) <;> (repeat' split) <;> first | rfl | omega | grind) (by intros; (try simp only [rII, rIJ, rIP, rJJ, rJI, rJP, rPP, rPI, rPJ, g1, g2, g3, g4, g5, g6, g7, g8, Nat.reduceEqDiff, Nat.reduceAdd, false_and, and_false, true_and, and_true, reduceIte, nZ0, nZ1, eτ212_38.1, eτ212_38.2, eτ212_52.1, eτ212_52.2, eτ212_53.1, eτ212_53.2, eτ212_59.1, eτ212_59.2, fun a k => (jτ212 a k).1, fun a k => (jτ212 a k).2, obτ212]) <;> (repeat' split) <;> first | rfl | omega | grind) (by intros; (try simp only [rII, rIJ, rIP, rJJ, rJI, rJP, rPP, rPI, rPJ, g1, g2, g3, g4, g5, g6, g7, g8, Nat.reduceEqDiff, Nat.reduceAdd, false_and, and_false, true_and, and_true, reduceIte, nZ0, nZ1, eτ212_38.1, eτ212_38.2, eτ212_52.1, eτ212_52.2, eτ212_53.1, eτ212_53.2, eτ212_59.1, eτ212_59.2, fun a k => (jτ212 a k).1, fun a k => (jτ212 a k).2, obτ212]) <;> (repeat' split) <;> first | rfl | omega | grind) (by intros; (try simp only [rII, rIJ, rIP, rJJ, rJI, rJP, rPP, rPI, rPJ, g1, g2, g3, g4, g5, g6, g7, g8, Nat.reduceEqDiff, Nat.reduceAdd, false_and, and_false, true_and, and_true, reduceIte, nZ0, nZ1, eτ212_38.1, eτ212_38.2, eτ212_52.1, eτ212_52.2, eτ212_53.1, eτ212_53.2, eτ212_59.1, eτ212_59.2, fun a k => (jτ212 a k).1, fun a k => (jτ212 a k).2, obτ212]) <;> (repeat' split) <;> first | rfl | omega | grind) (by intros; (try simp only [rII, rIJ, rIP, rJJ, rJI, rJP, rPP, rPI, rPJ, g1, g2, g3, g4, g5, g6, g7, g8, Nat.reduceEqDiff, Nat.reduceAdd, false_and, and_false, true_and, and_true, reduceIte, nZ0, nZ1, eτ212_38.1, eτ212_38.2, eτ212_52.1, eτ212_52.2, eτ212_53.1, eτ212_53.2, eτ212_59.1, eτ212_59.2, fun a k => (jτ212 a k).1, fun a k => (jτ212 a k).2, obτ212]) <;> (repeat' split) <;> first | rfl | omega | grind)).1, ⟨RecE.fr (K := [41, 45, 54, 55]) (S := [113]) r9 (by repeat (first | exact Fr.rf | assumption | refine Fr.aJ g ?_ (by decide) | refine Fr.aI g ?_ (by decide) | refine Fr.sI g ?_ (by decide) | refine Fr.sJ g ?_ (by decide))) (by decide) (by decide), HeE.fr (jx := jx) (K := [41, 45, 54, 55]) (S := [113]) e9 (by repeat (first | exact Fr.rf | assumption | refine Fr.aJ g ?_ (by decide) | refine Fr.aI g ?_ (by decide) | refine Fr.sI g ?_ (by decide) | refine Fr.sJ g ?_ (by decide))) (by decide) (by decide), MkI.fr (rm := rm) (K := [41, 45, 54, 55]) (S := [113]) m9 (by repeat (first | exact Fr.rf | assumption | refine Fr.aJ g ?_ (by decide) | refine Fr.aI g ?_ (by decide) | refine Fr.sI g ?_ (by decide) | refine Fr.sJ g ?_ (by decide))) (by decide)⟩, LcI.up hlc (t := v1) (c := v5) (by omega) ⟨by omega, hin.1⟩ hin.2 (by intros; (try simp only [rII, rIJ, rIP, rJJ, rJI, rJP, rPP, rPI, rPJ, g1, g2, g3, g4, g5, g6, g7, g8, Nat.reduceEqDiff, Nat.reduceAdd, false_and, and_false, true_and, and_true, reduceIte, nZ0, nZ1, eτ212_38.1, eτ212_38.2, eτ212_52.1, eτ212_52.2, eτ212_53.1, eτ212_53.2, eτ212_59.1, eτ212_59.2, fun a k => (jτ212 a k).1, fun a k => (jτ212 a k).2, obτ212]) <;> (repeat' split) <;> first | rfl | omega | grind) (by funext a9; (try simp only [rII, rIJ, rIP, rJJ, rJI, rJP, rPP, rPI, rPJ, g1, g2, g3, g4, g5, g6, g7, g8, Nat.reduceEqDiff, Nat.reduceAdd, false_and, and_false, true_and, and_true, reduceIte, nZ0, nZ1, eτ212_38.1, eτ212_38.2, eτ212_52.1, eτ212_52.2, eτ212_53.1, eτ212_53.2, eτ212_59.1, eτ212_59.2, fun a k => (jτ212 a k).1, fun a k => (jτ212 a k).2, obτ212]) <;> first | rfl | omega | grind) (by intros; (try simp only [rII, rIJ, rIP, rJJ, rJI, rJP, rPP, rPI, rPJ, g1, g2, g3, g4, g5, g6, g7, g8, Nat.reduceEqDiff, Nat.reduceAdd, false_and, and_false, true_and, and_true, reduceIte, nZ0, nZ1, eτ212_38.1, eτ212_38.2, eτ212_52.1, eτ212_52.2, eτ212_53.1, eτ212_53.2, eτ212_59.1, eτ212_59.2, fun a k => (jτ212 a k).1, fun a k => (jτ212 a k).2, obτ212]) <;> (repeat' split) <;> first | rfl | omega | grind), (by intros; (try simp only [rII, rIJ, rIP, rJJ, rJI, rJP, rPP, rPI, rPJ, g1, g2, g3, g4, g5, g6, g7, g8, Nat.reduceEqDiff, Nat.reduceAdd, false_and, and_false, true_and, and_true, reduceIte, nZ0, nZ1, eτ212_38.1, eτ212_38.2, eτ212_52.1, eτ212_52.2, eτ212_53.1, eτ212_53.2, eτ212_59.1, eτ212_59.2, fun a k => (jτ212 a k).1, fun a k => (jτ212 a k).2, obτ212]) <;> (repeat' split) <;> first | rfl | omega | grind), by omega, by omega⟩
                  · (try simp only [rII, rIJ, rIP, rJJ, rJI, rJP, rPP, rPI, rPJ, g1, g2, g3, g4, g5, g6, g7, g8, Nat.reduceEqDiff, Nat.reduceAdd, false_and, and_false, true_and, and_true, reduceIte, nZ0, nZ1, eτ212_38.1, eτ212_38.2, eτ212_52.1, eτ212_52.2, eτ212_53.1, eτ212_53.2, eτ212_59.1, eτ212_59.2, fun a k => (jτ212 a k).1, fun a k => (jτ212 a k).2, obτ212]) <;> (first | omega | with_reducible assumption | (unfold rng; omega) | (unfold rng; (repeat' split) <;> omega))
            refine ⟨_, L212 _ _ _ ?_ ?_ ?_ (Nat.lt_succ_self _)⟩
            · refine Rg.sI g ?_ (by simp only [rgS]; first | with_reducible exact nZ_rng _ | with_reducible exact nB_rng _ | with_reducible exact wr_rng _ | with_reducible exact i32any _ | (first | omega | with_reducible assumption | (unfold rng; omega) | (unfold rng; (repeat' split) <;> omega))); refine Rg.aI g ?_ (by simp only [rgT]; first | with_reducible exact nZ_rng _ | with_reducible exact nB_rng _ | with_reducible exact wr_rng _ | with_reducible exact i32any _ | (first | omega | with_reducible assumption | (unfold rng; omega) | (unfold rng; (repeat' split) <;> omega))); refine Rg.aI g ?_ (by simp only [rgT]; first | with_reducible exact nZ_rng _ | with_reducible exact nB_rng _ | with_reducible exact wr_rng _ | with_reducible exact i32any _ | (first | omega | with_reducible assumption | (unfold rng; omega) | (unfold rng; (repeat' split) <;> omega))); refine Rg.aI g ?_ (by simp only [rgT]; first | with_reducible exact nZ_rng _ | with_reducible exact nB_rng _ | with_reducible exact wr_rng _ | with_reducible exact i32any _ | (first | omega | with_reducible assumption | (unfold rng; omega) | (unfold rng; (repeat' split) <;> omega))); refine Rg.aI g ?_ (by simp only [rgT]; first | with_reducible exact nZ_rng _ | with_reducible exact nB_rng _ | with_reducible exact wr_rng _ | with_reducible exact i32any _ | (first | omega | with_reducible assumption | (unfold rng; omega) | (unfold rng; (repeat' split) <;> omega))); exact rσ
            · refine Fr.sI g ?_ (by decide); refine Fr.aI g ?_ (by decide); refine Fr.aI g ?_ (by decide); refine Fr.aI g ?_ (by decide); refine Fr.aI g ?_ (by decide); exact fσ
            · first | exact ⟨ThH.fr (jx := jx) (K := [81]) (S := []) h9 (by repeat (first | exact Fr.rf | assumption | refine Fr.aJ g ?_ (by decide) | refine Fr.aI g ?_ (by decide) | refine Fr.sI g ?_ (by decide) | refine Fr.sJ g ?_ (by decide))) (by decide) (by decide), ⟨RecE.fr (K := [81]) (S := []) r9 (by repeat (first | exact Fr.rf | assumption | refine Fr.aJ g ?_ (by decide) | refine Fr.aI g ?_ (by decide) | refine Fr.sI g ?_ (by decide) | refine Fr.sJ g ?_ (by decide))) (by decide) (by decide), HeE.fr (jx := jx) (K := [81]) (S := []) e9 (by repeat (first | exact Fr.rf | assumption | refine Fr.aJ g ?_ (by decide) | refine Fr.aI g ?_ (by decide) | refine Fr.sI g ?_ (by decide) | refine Fr.sJ g ?_ (by decide))) (by decide) (by decide), MkI.fr (rm := rm) (K := [81]) (S := []) m9 (by repeat (first | exact Fr.rf | assumption | refine Fr.aJ g ?_ (by decide) | refine Fr.aI g ?_ (by decide) | refine Fr.sI g ?_ (by decide) | refine Fr.sJ g ?_ (by decide))) (by decide)⟩, LcI.fr (jx := jx) (K := [81]) (S := []) l9 (by repeat (first | exact Fr.rf | assumption | refine Fr.aJ g ?_ (by decide) | refine Fr.aI g ?_ (by decide) | refine Fr.sI g ?_ (by decide) | refine Fr.sJ g ?_ (by decide))) (by decide) (by decide), fun i => by (try simp only [rII, rIJ, rIP, rJJ, rJI, rJP, rPP, rPI, rPJ, g1, g2, g3, g4, g5, g6, g7, g8, Nat.reduceEqDiff, Nat.reduceAdd, false_and, and_false, true_and, and_true, reduceIte, nZ0, nZ1]) <;> exact c9 i, by omega, by omega⟩ | exact ⟨(hti.take (c := v5) (by omega) (by omega) (by omega) (by intros; (try simp only [rII, rIJ, rIP, rJJ, rJI, rJP, rPP, rPI, rPJ, g1, g2, g3, g4, g5, g6, g7, g8, Nat.reduceEqDiff, Nat.reduceAdd, false_and, and_false, true_and, and_true, reduceIte, nZ0, nZ1]) <;> (repeat' split) <;> first | rfl | omega | grind) (by intros; (try simp only [rII, rIJ, rIP, rJJ, rJI, rJP, rPP, rPI, rPJ, g1, g2, g3, g4, g5, g6, g7, g8, Nat.reduceEqDiff, Nat.reduceAdd, false_and, and_false, true_and, and_true, reduceIte, nZ0, nZ1]) <;> (repeat' split) <;> first | rfl | omega | grind) (by intros; (try simp only [rII, rIJ, rIP, rJJ, rJI, rJP, rPP, rPI, rPJ, g1, g2, g3, g4, g5, g6, g7, g8, Nat.reduceEqDiff, Nat.reduceAdd, false_and, and_false, true_and, and_true, reduceIte, nZ0, nZ1]) <;> (repeat' split) <;> first | rfl | omega | grind) (by intros; (try simp only [rII, rIJ, rIP, rJJ, rJI, rJP, rPP, rPI, rPJ, g1, g2, g3, g4, g5, g6, g7, g8, Nat.reduceEqDiff, Nat.reduceAdd, false_and, and_false, true_and, and_true, reduceIte, nZ0, nZ1]) <;> (repeat' split) <;> first | rfl | omega | grind) (by intros; (try simp only [rII, rIJ, rIP, rJJ, rJI, rJP, rPP, rPI, rPJ, g1, g2, g3, g4, g5, g6, g7, g8, Nat.reduceEqDiff, Nat.reduceAdd, false_and, and_false, true_and, and_true, reduceIte, nZ0, nZ1]) <;> (repeat' split) <;> first | rfl | omega | grind) (by intros; (try simp only [rII, rIJ, rIP, rJJ, rJI, rJP, rPP, rPI, rPJ, g1, g2, g3, g4, g5, g6, g7, g8, Nat.reduceEqDiff, Nat.reduceAdd, false_and, and_false, true_and, and_true, reduceIte, nZ0, nZ1]) <;> (repeat' split) <;> first | rfl | omega | grind) (by intros; (try simp only [rII, rIJ, rIP, rJJ, rJI, rJP, rPP, rPI, rPJ, g1, g2, g3, g4, g5, g6, g7, g8, Nat.reduceEqDiff, Nat.reduceAdd, false_and, and_false, true_and, and_true, reduceIte, nZ0, nZ1]) <;> (repeat' split) <;> first | rfl | omega | grind) (by intros; (try simp only [rII, rIJ, rIP, rJJ, rJI, rJP, rPP, rPI, rPJ, g1, g2, g3, g4, g5, g6, g7, g8, Nat.reduceEqDiff, Nat.reduceAdd, false_and, and_false, true_and, and_true, reduceIte, nZ0, nZ1]) <;> (repeat' split) <;> first | rfl | omega | grind)).1, ⟨RecE.fr (K := [41, 45, 54, 55]) (S := [113]) r9 (by repeat (first | exact Fr.rf | assumption | refine Fr.aJ g ?_ (by decide) | refine Fr.aI g ?_ (by decide) | refine Fr.sI g ?_ (by decide) | refine Fr.sJ g ?_ (by decide))) (by decide) (by decide), HeE.fr (jx := jx) (K := [41, 45, 54, 55]) (S := [113]) e9 (by repeat (first | exact Fr.rf | assumption | refine Fr.aJ g ?_ (by decide) | refine Fr.aI g ?_ (by decide) | refine Fr.sI g ?_ (by decide) | refine Fr.sJ g ?_ (by decide))) (by decide) (by decide), MkI.fr (rm := rm) (K := [41, 45, 54, 55]) (S := [113]) m9 (by repeat (first | exact Fr.rf | assumption | refine Fr.aJ g ?_ (by decide) | refine Fr.aI g ?_ (by decide) | refine Fr.sI g ?_ (by decide) | refine Fr.sJ g ?_ (by decide))) (by decide)⟩, LcI.up hlc (t := v1) (c := v5) (by omega) ⟨by omega, hin.1⟩ hin.2 (by intros; (try simp only [rII, rIJ, rIP, rJJ, rJI, rJP, rPP, rPI, rPJ, g1, g2, g3, g4, g5, g6, g7, g8, Nat.reduceEqDiff, Nat.reduceAdd, false_and, and_false, true_and, and_true, reduceIte, nZ0, nZ1]) <;> (repeat' split) <;> first | rfl | omega | grind) (by funext a9; (try simp only [rII, rIJ, rIP, rJJ, rJI, rJP, rPP, rPI, rPJ, g1, g2, g3, g4, g5, g6, g7, g8, Nat.reduceEqDiff, Nat.reduceAdd, false_and, and_false, true_and, and_true, reduceIte, nZ0, nZ1]) <;> first | rfl | omega | grind) (by intros; (try simp only [rII, rIJ, rIP, rJJ, rJI, rJP, rPP, rPI, rPJ, g1, g2, g3, g4, g5, g6, g7, g8, Nat.reduceEqDiff, Nat.reduceAdd, false_and, and_false, true_and, and_true, reduceIte, nZ0, nZ1]) <;> (repeat' split) <;> first | rfl | omega | grind), (by intros; (try simp only [rII, rIJ, rIP, rJJ, rJI, rJP, rPP, rPI, rPJ, g1, g2, g3, g4, g5, g6, g7, g8, Nat.reduceEqDiff, Nat.reduceAdd, false_and, and_false, true_and, and_true, reduceIte, nZ0, nZ1]) <;> (repeat' split) <;> first | rfl | omega | grind), by omega, by omega⟩
          · rename_i hc51
            skip
            unfold w_X16_taskTurn_54
            try simp only [forall_eq, rII, rIJ, rIP, rJJ, rJI, rJP, rPP, rPI, rPJ, g1, g2, g3, g4, g5, g6, g7, g8, Nat.reduceEqDiff, Nat.reduceAdd, false_and, and_false, true_and, and_true, reduceIte, nZ0, nZ1]
            refine ⟨by (first | omega | with_reducible assumption | (unfold rng; omega) | (unfold rng; (repeat' split) <;> omega)), ?_⟩
            refine ⟨by (first | omega | with_reducible assumption | (unfold rng; omega) | (unfold rng; (repeat' split) <;> omega)), ?_⟩
            refine ⟨by (first | omega | with_reducible assumption | (unfold rng; omega) | (unfold rng; (repeat' split) <;> omega)), ?_⟩
            have q55 := remI_eq (x := ((r30 - r30) + v6)) (y := r32) (by (first | omega | with_reducible assumption | (unfold rng; omega) | (unfold rng; (repeat' split) <;> omega))) (by (first | omega | with_reducible assumption | (unfold rng; omega) | (unfold rng; (repeat' split) <;> omega)))
            refine ⟨by (first | omega | with_reducible assumption | (unfold rng; omega) | (unfold rng; (repeat' split) <;> omega)), ?_⟩
            refine ⟨by (first | omega | with_reducible assumption | (unfold rng; omega) | (unfold rng; (repeat' split) <;> omega)), ?_⟩
            have q56 := rσ.1 54 ((r30 + (remI ((r30 - r30) + v6) r32)).toNat); simp only [rgT] at q56
            split
            · rename_i hc74
              skip
              unfold w_X16_taskTurn_92
              try simp only [forall_eq, rII, rIJ, rIP, rJJ, rJI, rJP, rPP, rPI, rPJ, g1, g2, g3, g4, g5, g6, g7, g8, Nat.reduceEqDiff, Nat.reduceAdd, false_and, and_false, true_and, and_true, reduceIte, nZ0, nZ1]
              unfold w_X16_taskTurn_93
              try simp only [forall_eq, rII, rIJ, rIP, rJJ, rJI, rJP, rPP, rPI, rPJ, g1, g2, g3, g4, g5, g6, g7, g8, Nat.reduceEqDiff, Nat.reduceAdd, false_and, and_false, true_and, and_true, reduceIte, nZ0, nZ1]
              refine ⟨by (first | omega | with_reducible assumption | (unfold rng; omega) | (unfold rng; (repeat' split) <;> omega)), ?_⟩
              refine ih42 _ _ ?_ ?_
              · refine ⟨by omega, by omega, ?_⟩; first | exact Or.inl rfl | exact Or.inr ⟨by omega, by omega, by omega⟩
              · (try simp only [rII, rIJ, rIP, rJJ, rJI, rJP, rPP, rPI, rPJ, g1, g2, g3, g4, g5, g6, g7, g8, Nat.reduceEqDiff, Nat.reduceAdd, false_and, and_false, true_and, and_true, reduceIte, nZ0, nZ1]) <;> (first | omega | with_reducible assumption | (unfold rng; omega) | (unfold rng; (repeat' split) <;> omega))
            · rename_i hc74
              skip
              unfold w_X16_taskTurn_77
              try simp only [forall_eq, rII, rIJ, rIP, rJJ, rJI, rJP, rPP, rPI, rPJ, g1, g2, g3, g4, g5, g6, g7, g8, Nat.reduceEqDiff, Nat.reduceAdd, false_and, and_false, true_and, and_true, reduceIte, nZ0, nZ1]
              refine ⟨by (first | omega | with_reducible assumption | (unfold rng; omega) | (unfold rng; (repeat' split) <;> omega)), ?_⟩
              have q57 := rσ.1 57 ((r30 + (remI ((r30 - r30) + v6) r32)).toNat); simp only [rgT] at q57
              split
              · rename_i hc84
                skip
                unfold w_X16_taskTurn_92
                try simp only [forall_eq, rII, rIJ, rIP, rJJ, rJI, rJP, rPP, rPI, rPJ, g1, g2, g3, g4, g5, g6, g7, g8, Nat.reduceEqDiff, Nat.reduceAdd, false_and, and_false, true_and, and_true, reduceIte, nZ0, nZ1]
                unfold w_X16_taskTurn_93
                try simp only [forall_eq, rII, rIJ, rIP, rJJ, rJI, rJP, rPP, rPI, rPJ, g1, g2, g3, g4, g5, g6, g7, g8, Nat.reduceEqDiff, Nat.reduceAdd, false_and, and_false, true_and, and_true, reduceIte, nZ0, nZ1]
                refine ⟨by (first | omega | with_reducible assumption | (unfold rng; omega) | (unfold rng; (repeat' split) <;> omega)), ?_⟩
                refine ih42 _ _ ?_ ?_
                · refine ⟨by omega, by omega, ?_⟩; first | exact Or.inl rfl | exact Or.inr ⟨by omega, by omega, by omega⟩
                · (try simp only [rII, rIJ, rIP, rJJ, rJI, rJP, rPP, rPI, rPJ, g1, g2, g3, g4, g5, g6, g7, g8, Nat.reduceEqDiff, Nat.reduceAdd, false_and, and_false, true_and, and_true, reduceIte, nZ0, nZ1]) <;> (first | omega | with_reducible assumption | (unfold rng; omega) | (unfold rng; (repeat' split) <;> omega))
              · rename_i hc84
                skip
                unfold w_X16_taskTurn_87
                try simp only [forall_eq, rII, rIJ, rIP, rJJ, rJI, rJP, rPP, rPI, rPJ, g1, g2, g3, g4, g5, g6, g7, g8, Nat.reduceEqDiff, Nat.reduceAdd, false_and, and_false, true_and, and_true, reduceIte, nZ0, nZ1]
                unfold w_X16_taskTurn_93
                try simp only [forall_eq, rII, rIJ, rIP, rJJ, rJI, rJP, rPP, rPI, rPJ, g1, g2, g3, g4, g5, g6, g7, g8, Nat.reduceEqDiff, Nat.reduceAdd, false_and, and_false, true_and, and_true, reduceIte, nZ0, nZ1]
                refine ⟨by (first | omega | with_reducible assumption | (unfold rng; omega) | (unfold rng; (repeat' split) <;> omega)), ?_⟩
                refine ih42 _ _ ?_ ?_
                · refine ⟨by omega, by omega, ?_⟩; first | exact Or.inl rfl | exact Or.inr ⟨by omega, by omega, by omega⟩
                · (try simp only [rII, rIJ, rIP, rJJ, rJI, rJP, rPP, rPI, rPJ, g1, g2, g3, g4, g5, g6, g7, g8, Nat.reduceEqDiff, Nat.reduceAdd, false_and, and_false, true_and, and_true, reduceIte, nZ0, nZ1]) <;> (first | omega | with_reducible assumption | (unfold rng; omega) | (unfold rng; (repeat' split) <;> omega))
    refine ⟨_, L42 _ _ _ ?_ (Nat.lt_succ_self _)⟩
    · refine ⟨by omega, by omega, ?_⟩; first | exact Or.inl rfl | exact Or.inr ⟨by omega, by omega, by omega⟩
set_option maxHeartbeats 8000000 in
theorem s_X16_oneTurn {ra : Nat → Nat} {jx : Nat → Nat → Nat} {rm : Nat} {ja : Nat} (g : Geo ra jx rm) {σ : Sg} (rσ : Rg ra jx rm σ) (hj : gP σ rm 17 = some ja) (hja : ja = ra 15 ∨ ja = ra 16) (hre : RecE ra jx rm ja σ) (hth : ThE ra rm σ) (hhe : HeE ra rm σ) (hmk : MkI ra jx ja σ) (hp : 1 ≤ gI σ rm 33) (hjo : JobOK jx ja σ) (h36 : 1 ≤ gI σ rm 36) (hcm : ∀ i : Nat, i < 1100 → gI σ (ra 54) i ≤ gI σ rm 34) (hly : LyI ra jx rm ja σ) (hlc : LcI ra rm σ) {Q : Sg → Int → Prop} {X : Sg → String → Prop} (hQ : ∀ (σ' : Sg) (r : Int), Rg ra jx rm σ' → Fr ra jx rm [20, 26, 40, 41, 42, 43, 44, 45, 46, 47, 48, 49, 54, 55, 56, 57, 58, 59, 60, 61, 62, 63, 64, 65, 68, 69, 70, 71, 72, 73, 74, 75, 76, 77, 78, 81, 82, 83, 84, 85, 86, 87, 88, 89, 97, 98, 99, 100, 101, 102, 103, 104, 105, 106, 107, 108, 109] [21, 27, 31, 32, 35, 66, 67, 79, 80, 90, 91, 92, 93, 96, 110, 111, 113] σ σ' → (((ThE ra rm σ' ∧ RecE ra jx rm ja σ' ∧ HeE ra rm σ' ∧ MkI ra jx ja σ') ∧ LcI ra rm σ' ∧ (∀ i : Nat, i < 1100 → gI σ' (ra 54) i ≤ gI σ rm 34)) ∧ (0 ≤ r ∧ r ≤ 1)) → Q σ' r) : wp_X16_oneTurn ra jx rm σ Q X := by
  obtain ⟨g1, g2, g3, g4, g5, g6, g7, g8⟩ := id g
  have fσ : Fr ra jx rm [20, 26, 40, 41, 42, 43, 44, 45, 46, 47, 48, 49, 54, 55, 56, 57, 58, 59, 60, 61, 62, 63, 64, 65, 68, 69, 70, 71, 72, 73, 74, 75, 76, 77, 78, 81, 82, 83, 84, 85, 86, 87, 88, 89, 97, 98, 99, 100, 101, 102, 103, 104, 105, 106, 107, 108, 109] [21, 27, 31, 32, 35, 66, 67, 79, 80, 90, 91, 92, 93, 96, 110, 111, 113] σ σ := Fr.rf
  have t9 := hth; have r9 := hre; have e9 := hhe; have m9 := hmk
  have l9 := hlc; have c9 := hcm
  have h36b := rσ.2.1 36; simp only [rgS] at h36b
  have htk := fun u : UInt64 => mod64 (n := gI σ rm 36) (sh33 u) (by omega)
  have htu := htk (gJ σ rm 35 * 6364136223846793005 + 1442695040888963407).toUInt64
  have hnz := i64_nz (n := gI σ rm 36) (by omega)
  have h27 := rσ.2.1 27; simp only [rgS] at h27
  have hxT : ∀ (σx : Sg) (E : String), Rg ra jx rm σx → Fr ra jx rm [20, 26, 40, 41, 42, 43, 44, 45, 46, 47, 48, 49, 54, 55, 56, 57, 58, 59, 60, 61, 62, 63, 64, 65, 68, 69, 70, 71, 72, 73, 74, 75, 76, 77, 78, 81, 82, 83, 84, 85, 86, 87, 88, 89, 97, 98, 99, 100, 101, 102, 103, 104, 105, 106, 107, 108, 109] [21, 27, 31, 32, 35, 66, 67, 79, 80, 90, 91, 92, 93, 96, 110, 111, 113] σ σx → (E = "StreamHouseModel$Broken" ∧ (ThE ra rm σx ∧ RecE ra jx rm ja σx ∧ HeE ra rm σx ∧ MkI ra jx ja σx) ∧ LcI ra rm σx ∧ (∀ i : Nat, i < 1100 → gI σx (ra 54) i ≤ gI σ rm 34)) → wx_X16_oneTurn_119 ra jx rm Q X (gI σ rm 27) σx E := by
    intro σx E rx fx px
    refine ⟨px.1, fun u0 => ?_⟩
    unfold w_X16_oneTurn_119
    split
    · unfold w_X16_oneTurn_138; have q9 := rx.2.1 113; simp only [rgS] at q9; exact hQ _ _ rx fx ⟨px.2, q9⟩
    · unfold w_X16_oneTurn_128; simp only [forall_eq]; unfold w_X16_oneTurn_138; have q9 := rx.2.1 113; simp only [rgS] at q9
      refine hQ _ _ (Rg.sI g (Rg.sI g rx (by simp only [rgS]; omega)) (by simp only [rgS]; omega)) (Fr.sI g (Fr.sI g fx (by decide)) (by decide)) ⟨⟨⟨ThE.fr (jx := jx) (K := []) (S := [31, 27]) px.2.1.1 (by repeat (first | exact Fr.rf | assumption | refine Fr.aJ g ?_ (by decide) | refine Fr.aI g ?_ (by decide) | refine Fr.sI g ?_ (by decide) | refine Fr.sJ g ?_ (by decide))) (by decide) (by decide), RecE.fr (K := []) (S := [31, 27]) px.2.1.2.1 (by repeat (first | exact Fr.rf | assumption | refine Fr.aJ g ?_ (by decide) | refine Fr.aI g ?_ (by decide) | refine Fr.sI g ?_ (by decide) | refine Fr.sJ g ?_ (by decide))) (by decide) (by decide), HeE.fr (jx := jx) (K := []) (S := [31, 27]) px.2.1.2.2.1 (by repeat (first | exact Fr.rf | assumption | refine Fr.aJ g ?_ (by decide) | refine Fr.aI g ?_ (by decide) | refine Fr.sI g ?_ (by decide) | refine Fr.sJ g ?_ (by decide))) (by decide) (by decide), MkI.fr (rm := rm) (K := []) (S := [31, 27]) px.2.1.2.2.2 (by repeat (first | exact Fr.rf | assumption | refine Fr.aJ g ?_ (by decide) | refine Fr.aI g ?_ (by decide) | refine Fr.sI g ?_ (by decide) | refine Fr.sJ g ?_ (by decide))) (by decide)⟩, LcI.fr (jx := jx) (K := []) (S := [31, 27]) px.2.2.1 (by repeat (first | exact Fr.rf | assumption | refine Fr.aJ g ?_ (by decide) | refine Fr.aI g ?_ (by decide) | refine Fr.sI g ?_ (by decide) | refine Fr.sJ g ?_ (by decide))) (by decide) (by decide), fun i hi => by simp only [rII, rIJ, rIP, rJJ, rJI, rJP, rPP, rPI, rPJ, g1, g2, g3, g4, g5, g6, g7, g8, Nat.reduceEqDiff, Nat.reduceAdd, false_and, and_false, true_and, and_true, reduceIte, nZ0, nZ1]; exact px.2.2.2 i hi⟩, by simp only [rII, rIJ, rIP, rJJ, rJI, rJP, rPP, rPI, rPJ, g1, g2, g3, g4, g5, g6, g7, g8, Nat.reduceEqDiff, Nat.reduceAdd, false_and, and_false, true_and, and_true, reduceIte, nZ0, nZ1]; exact q9⟩
  unfold wp_X16_oneTurn
  unfold w_X16_oneTurn_0
  try simp only [forall_eq, rII, rIJ, rIP, rJJ, rJI, rJP, rPP, rPI, rPJ, g1, g2, g3, g4, g5, g6, g7, g8, Nat.reduceEqDiff, Nat.reduceAdd, false_and, and_false, true_and, and_true, reduceIte, nZ0, nZ1]
  have q1 := rσ.2.1 36; simp only [rgS] at q1
  refine ⟨by (first | omega | with_reducible assumption | (unfold rng; omega) | (unfold rng; (repeat' split) <;> omega)), ?_⟩
  unfold w_X16_oneTurn_51
  try simp only [forall_eq, rII, rIJ, rIP, rJJ, rJI, rJP, rPP, rPI, rPJ, g1, g2, g3, g4, g5, g6, g7, g8, Nat.reduceEqDiff, Nat.reduceAdd, false_and, and_false, true_and, and_true, reduceIte, nZ0, nZ1]
  refine s_X16_flush g (by refine Rg.sJ g ?_; refine Rg.sJ g ?_; refine Rg.sI g ?_ (by simp only [rgS]; first | with_reducible exact nZ_rng _ | with_reducible exact nB_rng _ | with_reducible exact wr_rng _ | with_reducible exact i32any _ | (first | omega | with_reducible assumption | (unfold rng; omega) | (unfold rng; (repeat' split) <;> omega))); exact rσ) (by first | exact t9 | exact ThE.fr (jx := jx) (K := []) (S := [113, 110, 35]) t9 (by repeat (first | exact Fr.rf | assumption | refine Fr.aJ g ?_ (by decide) | refine Fr.aI g ?_ (by decide) | refine Fr.sI g ?_ (by decide) | refine Fr.sJ g ?_ (by decide))) (by decide) (by decide) | exact ThE.fr (jx := jx) (K := []) (S := [111]) t9 (by repeat (first | exact Fr.rf | assumption | refine Fr.aJ g ?_ (by decide) | refine Fr.aI g ?_ (by decide) | refine Fr.sI g ?_ (by decide) | refine Fr.sJ g ?_ (by decide))) (by decide) (by decide)) (by have z9 := htu; exact ⟨z9.1, by omega⟩) (by intro i hi; (try simp only [rII, rIJ, rIP, rJJ, rJI, rJP, rPP, rPI, rPJ, g1, g2, g3, g4, g5, g6, g7, g8, Nat.reduceEqDiff, Nat.reduceAdd, false_and, and_false, true_and, and_true, reduceIte, nZ0, nZ1]) <;> exact c9 i hi) (fun σ34 r35 rσ34 fc p2 => ?_)
  have fσ34 : Fr ra jx rm [20, 26, 40, 41, 42, 43, 44, 45, 46, 47, 48, 49, 54, 55, 56, 57, 58, 59, 60, 61, 62, 63, 64, 65, 68, 69, 70, 71, 72, 73, 74, 75, 76, 77, 78, 81, 82, 83, 84, 85, 86, 87, 88, 89, 97, 98, 99, 100, 101, 102, 103, 104, 105, 106, 107, 108, 109] [21, 27, 31, 32, 35, 66, 67, 79, 80, 90, 91, 92, 93, 96, 110, 111, 113] σ σ34 := Fr.tr (by refine Fr.sJ g ?_ (by decide); refine Fr.sJ g ?_ (by decide); refine Fr.sI g ?_ (by decide); exact fσ) (Fr.mor (fc) (by decide) (by decide))
  have t8 := p2.1
  have r8 := RecE.fr (RecE.fr (K := []) (S := [113, 110, 35]) r9 (by repeat (first | exact Fr.rf | assumption | refine Fr.aJ g ?_ (by decide) | refine Fr.aI g ?_ (by decide) | refine Fr.sI g ?_ (by decide) | refine Fr.sJ g ?_ (by decide))) (by decide) (by decide)) fc (by decide) (by decide)
  have e8 := HeE.fr (HeE.fr (jx := jx) (K := []) (S := [113, 110, 35]) e9 (by repeat (first | exact Fr.rf | assumption | refine Fr.aJ g ?_ (by decide) | refine Fr.aI g ?_ (by decide) | refine Fr.sI g ?_ (by decide) | refine Fr.sJ g ?_ (by decide))) (by decide) (by decide)) fc (by decide) (by decide)
  have m8 := MkI.fr (MkI.fr (rm := rm) (K := []) (S := [113, 110, 35]) m9 (by repeat (first | exact Fr.rf | assumption | refine Fr.aJ g ?_ (by decide) | refine Fr.aI g ?_ (by decide) | refine Fr.sI g ?_ (by decide) | refine Fr.sJ g ?_ (by decide))) (by decide)) fc (by decide)
  have t9 := t8; have r9 := r8; have e9 := e8; have m9 := m8; clear t8 r8 e8 m8
  have l9 := LcI.fr (LcI.fr (jx := jx) (K := []) (S := [113, 110, 35]) l9 (by repeat (first | exact Fr.rf | assumption | refine Fr.aJ g ?_ (by decide) | refine Fr.aI g ?_ (by decide) | refine Fr.sI g ?_ (by decide) | refine Fr.sJ g ?_ (by decide))) (by decide) (by decide)) fc (by decide) (by decide)
  have c9 : ∀ i : Nat, i < 1100 → gI σ34 (ra 54) i ≤ gI σ rm 34 := fun i hi => Int.le_trans (p2.2 i hi) (by (try simp only [rII, rIJ, rIP, rJJ, rJI, rJP, rPP, rPI, rPJ, g1, g2, g3, g4, g5, g6, g7, g8, Nat.reduceEqDiff, Nat.reduceAdd, false_and, and_false, true_and, and_true, reduceIte, nZ0, nZ1]) <;> exact Int.le_refl _)
  have eσ34_38 := fσ34.1 38 (by decide)
  have eσ34_52 := fσ34.1 52 (by decide)
  have eσ34_53 := fσ34.1 53 (by decide)
  have sσ34_33 := fσ34.2.1 33 (by decide)
  have sσ34_34 := fσ34.2.1 34 (by decide)
  have sσ34_36 := fσ34.2.1 36 (by decide)
  have sσ34_50 := fσ34.2.1 50 (by decide)
  have jσ34 := fσ34.2.2.1
  have pσ34 := fσ34.2.2.2
  have obσ34 := Fr.ob fσ34 hja (by decide)
  try simp only [forall_eq, rII, rIJ, rIP, rJJ, rJI, rJP, rPP, rPI, rPJ, g1, g2, g3, g4, g5, g6, g7, g8, Nat.reduceEqDiff, Nat.reduceAdd, false_and, and_false, true_and, and_true, reduceIte, nZ0, nZ1, eσ34_38.1, eσ34_38.2, eσ34_52.1, eσ34_52.2, eσ34_53.1, eσ34_53.2, sσ34_33.1, sσ34_33.2, sσ34_34.1, sσ34_34.2, sσ34_36.1, sσ34_36.2, sσ34_50.1, sσ34_50.2, fun a k => (jσ34 a k).1, fun a k => (jσ34 a k).2, pσ34, obσ34]
  split
  · rename_i hc56
    skip
    unfold w_X16_oneTurn_61
    try simp only [forall_eq, rII, rIJ, rIP, rJJ, rJI, rJP, rPP, rPI, rPJ, g1, g2, g3, g4, g5, g6, g7, g8, Nat.reduceEqDiff, Nat.reduceAdd, false_and, and_false, true_and, and_true, reduceIte, nZ0, nZ1, eσ34_38.1, eσ34_38.2, eσ34_52.1, eσ34_52.2, eσ34_53.1, eσ34_53.2, sσ34_33.1, sσ34_33.2, sσ34_34.1, sσ34_34.2, sσ34_36.1, sσ34_36.2, sσ34_50.1, sσ34_50.2, fun a k => (jσ34 a k).1, fun a k => (jσ34 a k).2, pσ34, obσ34]
    refine ⟨ja, by exact hj, hja, ?_⟩
    refine ⟨by (first | omega | with_reducible assumption | (unfold rng; omega) | (unfold rng; (repeat' split) <;> omega)), ?_⟩
    have q3 := rσ.1 38 (((((((((gJ σ rm 35) * 6364136223846793005) + 1442695040888963407)).toUInt64 >>> ((i32 33).toInt64.toUInt64 &&& Int64.toUInt64 63)).toInt64 - (((((gJ σ rm 35) * 6364136223846793005) + 1442695040888963407)).toUInt64 >>> ((i32 33).toInt64.toUInt64 &&& Int64.toUInt64 63)).toInt64 / (Int64.ofInt (gI σ rm 36)) * (Int64.ofInt (gI σ rm 36)))).toInt32.toInt).toNat); simp only [rgT] at q3
    refine ⟨by (first | omega | with_reducible assumption | (unfold rng; omega) | (unfold rng; (repeat' split) <;> omega)), ?_⟩
    have q4 := rσ.2.2.1 ja 2 ((gI σ (ra 38) ((((((((gJ σ rm 35) * 6364136223846793005) + 1442695040888963407)).toUInt64 >>> ((i32 33).toInt64.toUInt64 &&& Int64.toUInt64 63)).toInt64 - (((((gJ σ rm 35) * 6364136223846793005) + 1442695040888963407)).toUInt64 >>> ((i32 33).toInt64.toUInt64 &&& Int64.toUInt64 63)).toInt64 / (Int64.ofInt (gI σ rm 36)) * (Int64.ofInt (gI σ rm 36)))).toInt32.toInt).toNat).toNat); simp only [rgJ] at q4
    split
    · rename_i hc75
      skip
      unfold w_X16_oneTurn_86
      try simp only [forall_eq, rII, rIJ, rIP, rJJ, rJI, rJP, rPP, rPI, rPJ, g1, g2, g3, g4, g5, g6, g7, g8, Nat.reduceEqDiff, Nat.reduceAdd, false_and, and_false, true_and, and_true, reduceIte, nZ0, nZ1, eσ34_38.1, eσ34_38.2, eσ34_52.1, eσ34_52.2, eσ34_53.1, eσ34_53.2, sσ34_33.1, sσ34_33.2, sσ34_34.1, sσ34_34.2, sσ34_36.1, sσ34_36.2, sσ34_50.1, sσ34_50.2, fun a k => (jσ34 a k).1, fun a k => (jσ34 a k).2, pσ34, obσ34]
      refine s_X16_taskTurn g rσ34 (by first | exact hj | (rw [fσ34.2.2.2]; exact hj)) hja r9 (by first | exact t9 | exact ThE.fr (jx := jx) (K := []) (S := [113, 110, 35]) t9 (by repeat (first | exact Fr.rf | assumption | refine Fr.aJ g ?_ (by decide) | refine Fr.aI g ?_ (by decide) | refine Fr.sI g ?_ (by decide) | refine Fr.sJ g ?_ (by decide))) (by decide) (by decide) | exact ThE.fr (jx := jx) (K := []) (S := [111]) t9 (by repeat (first | exact Fr.rf | assumption | refine Fr.aJ g ?_ (by decide) | refine Fr.aI g ?_ (by decide) | refine Fr.sI g ?_ (by decide) | refine Fr.sJ g ?_ (by decide))) (by decide) (by decide)) e9 m9 (by have z9 := htu; exact ⟨z9.1, by omega⟩) (by (try simp only [rII, rIJ, rIP, rJJ, rJI, rJP, rPP, rPI, rPJ, g1, g2, g3, g4, g5, g6, g7, g8, Nat.reduceEqDiff, Nat.reduceAdd, false_and, and_false, true_and, and_true, reduceIte, nZ0, nZ1, eσ34_38.1, eσ34_38.2, eσ34_52.1, eσ34_52.2, eσ34_53.1, eσ34_53.2, sσ34_33.1, sσ34_33.2, sσ34_34.1, sσ34_34.2, sσ34_36.1, sσ34_36.2, sσ34_50.1, sσ34_50.2, fun a k => (jσ34 a k).1, fun a k => (jσ34 a k).2, pσ34, obσ34]) <;> first | exact hp | (rw [(fσ34.2.1 33 (by decide)).1]; exact hp)) (by (try simp only [rII, rIJ, rIP, rJJ, rJI, rJP, rPP, rPI, rPJ, g1, g2, g3, g4, g5, g6, g7, g8, Nat.reduceEqDiff, Nat.reduceAdd, false_and, and_false, true_and, and_true, reduceIte, nZ0, nZ1, eσ34_38.1, eσ34_38.2, eσ34_52.1, eσ34_52.2, eσ34_53.1, eσ34_53.2, sσ34_33.1, sσ34_33.2, sσ34_34.1, sσ34_34.2, sσ34_36.1, sσ34_36.2, sσ34_50.1, sσ34_50.2, fun a k => (jσ34 a k).1, fun a k => (jσ34 a k).2, pσ34, obσ34]) <;> assumption) (by (try simp only [rII, rIJ, rIP, rJJ, rJI, rJP, rPP, rPI, rPJ, g1, g2, g3, g4, g5, g6, g7, g8, Nat.reduceEqDiff, Nat.reduceAdd, false_and, and_false, true_and, and_true, reduceIte, nZ0, nZ1, eσ34_38.1, eσ34_38.2, eσ34_52.1, eσ34_52.2, eσ34_53.1, eσ34_53.2, sσ34_33.1, sσ34_33.2, sσ34_34.1, sσ34_34.2, sσ34_36.1, sσ34_36.2, sσ34_50.1, sσ34_50.2, fun a k => (jσ34 a k).1, fun a k => (jσ34 a k).2, pσ34, obσ34]) <;> exact JobOK.fr (K := [20, 26, 40, 41, 42, 43, 44, 45, 46, 47, 48, 49, 54, 55, 56, 57, 58, 59, 60, 61, 62, 63, 64, 65, 68, 69, 70, 71, 72, 73, 74, 75, 76, 77, 78, 81, 82, 83, 84, 85, 86, 87, 88, 89, 97, 98, 99, 100, 101, 102, 103, 104, 105, 106, 107, 108, 109]) (S := [21, 27, 31, 32, 35, 66, 67, 79, 80, 90, 91, 92, 93, 96, 110, 111, 113]) hjo hja (by repeat (first | exact Fr.rf | assumption | refine Fr.aJ g ?_ (by decide) | refine Fr.aI g ?_ (by decide) | refine Fr.sI g ?_ (by decide) | refine Fr.sJ g ?_ (by decide))) (by decide)) (by (try simp only [rII, rIJ, rIP, rJJ, rJI, rJP, rPP, rPI, rPJ, g1, g2, g3, g4, g5, g6, g7, g8, Nat.reduceEqDiff, Nat.reduceAdd, false_and, and_false, true_and, and_true, reduceIte, nZ0, nZ1, eσ34_38.1, eσ34_38.2, eσ34_52.1, eσ34_52.2, eσ34_53.1, eσ34_53.2, sσ34_33.1, sσ34_33.2, sσ34_34.1, sσ34_34.2, sσ34_36.1, sσ34_36.2, sσ34_50.1, sσ34_50.2, fun a k => (jσ34 a k).1, fun a k => (jσ34 a k).2, pσ34, obσ34]) <;> exact hly.2.2 _ htu.1 htu.2) (by exact LyI.fr hly hja fσ34 (by decide) (by decide)) l9 (fun σ37 r38 rσ37 fc p5 => ?_) (fun σx E rx fx px => hxT _ _ rx (Fr.tr fσ34 (Fr.mor (fx) (by decide) (by decide))) ⟨px.1, px.2.1, px.2.2.1, fun i hi => Int.le_trans (px.2.2.2 i) (c9 i hi)⟩)
      have fσ37 : Fr ra jx rm [20, 26, 40, 41, 42, 43, 44, 45, 46, 47, 48, 49, 54, 55, 56, 57, 58, 59, 60, 61, 62, 63, 64, 65, 68, 69, 70, 71, 72, 73, 74, 75, 76, 77, 78, 81, 82, 83, 84, 85, 86, 87, 88, 89, 97, 98, 99, 100, 101, 102, 103, 104, 105, 106, 107, 108, 109] [21, 27, 31, 32, 35, 66, 67, 79, 80, 90, 91, 92, 93, 96, 110, 111, 113] σ σ37 := Fr.tr fσ34 (Fr.mor (fc) (by decide) (by decide))
      have c9 : ∀ i : Nat, i < 1100 → gI σ37 (ra 54) i ≤ gI σ rm 34 := fun i hi => Int.le_trans (p5.2.2 i) (c9 i hi)
      have l9 := p5.2.1
      obtain ⟨t9, r9, e9, m9⟩ := p5.1
      have eσ37_38 := fσ37.1 38 (by decide)
      have eσ37_52 := fσ37.1 52 (by decide)
      have eσ37_53 := fσ37.1 53 (by decide)
      have sσ37_33 := fσ37.2.1 33 (by decide)
      have sσ37_34 := fσ37.2.1 34 (by decide)
      have sσ37_36 := fσ37.2.1 36 (by decide)
      have sσ37_50 := fσ37.2.1 50 (by decide)
      have jσ37 := fσ37.2.2.1
      have pσ37 := fσ37.2.2.2
      have obσ37 := Fr.ob fσ37 hja (by decide)
      try simp only [forall_eq, rII, rIJ, rIP, rJJ, rJI, rJP, rPP, rPI, rPJ, g1, g2, g3, g4, g5, g6, g7, g8, Nat.reduceEqDiff, Nat.reduceAdd, false_and, and_false, true_and, and_true, reduceIte, nZ0, nZ1, eσ37_38.1, eσ37_38.2, eσ37_52.1, eσ37_52.2, eσ37_53.1, eσ37_53.2, sσ37_33.1, sσ37_33.2, sσ37_34.1, sσ37_34.2, sσ37_36.1, sσ37_36.2, sσ37_50.1, sσ37_50.2, fun a k => (jσ37 a k).1, fun a k => (jσ37 a k).2, pσ37, obσ37]
      unfold w_X16_oneTurn_91
      try simp only [forall_eq, rII, rIJ, rIP, rJJ, rJI, rJP, rPP, rPI, rPJ, g1, g2, g3, g4, g5, g6, g7, g8, Nat.reduceEqDiff, Nat.reduceAdd, false_and, and_false, true_and, and_true, reduceIte, nZ0, nZ1, eσ37_38.1, eσ37_38.2, eσ37_52.1, eσ37_52.2, eσ37_53.1, eσ37_53.2, sσ37_33.1, sσ37_33.2, sσ37_34.1, sσ37_34.2, sσ37_36.1, sσ37_36.2, sσ37_50.1, sσ37_50.2, fun a k => (jσ37 a k).1, fun a k => (jσ37 a k).2, pσ37, obσ37]
      split
      · rename_i hc98
        skip
        unfold w_X16_oneTurn_105
        try simp only [forall_eq, rII, rIJ, rIP, rJJ, rJI, rJP, rPP, rPI, rPJ, g1, g2, g3, g4, g5, g6, g7, g8, Nat.reduceEqDiff, Nat.reduceAdd, false_and, and_false, true_and, and_true, reduceIte, nZ0, nZ1, eσ37_38.1, eσ37_38.2, eσ37_52.1, eσ37_52.2, eσ37_53.1, eσ37_53.2, sσ37_33.1, sσ37_33.2, sσ37_34.1, sσ37_34.2, sσ37_36.1, sσ37_36.2, sσ37_50.1, sσ37_50.2, fun a k => (jσ37 a k).1, fun a k => (jσ37 a k).2, pσ37, obσ37]
        unfold w_X16_oneTurn_106
        try simp only [forall_eq, rII, rIJ, rIP, rJJ, rJI, rJP, rPP, rPI, rPJ, g1, g2, g3, g4, g5, g6, g7, g8, Nat.reduceEqDiff, Nat.reduceAdd, false_and, and_false, true_and, and_true, reduceIte, nZ0, nZ1, eσ37_38.1, eσ37_38.2, eσ37_52.1, eσ37_52.2, eσ37_53.1, eσ37_53.2, sσ37_33.1, sσ37_33.2, sσ37_34.1, sσ37_34.2, sσ37_36.1, sσ37_36.2, sσ37_50.1, sσ37_50.2, fun a k => (jσ37 a k).1, fun a k => (jσ37 a k).2, pσ37, obσ37]
        refine s_X16_flush g (by refine Rg.sJ g ?_; exact rσ37) (by first | exact t9 | exact ThE.fr (jx := jx) (K := []) (S := [113, 110, 35]) t9 (by repeat (first | exact Fr.rf | assumption | refine Fr.aJ g ?_ (by decide) | refine Fr.aI g ?_ (by decide) | refine Fr.sI g ?_ (by decide) | refine Fr.sJ g ?_ (by decide))) (by decide) (by decide) | exact ThE.fr (jx := jx) (K := []) (S := [111]) t9 (by repeat (first | exact Fr.rf | assumption | refine Fr.aJ g ?_ (by decide) | refine Fr.aI g ?_ (by decide) | refine Fr.sI g ?_ (by decide) | refine Fr.sJ g ?_ (by decide))) (by decide) (by decide)) (by have z9 := htu; exact ⟨z9.1, by omega⟩) (by intro i hi; (try simp only [rII, rIJ, rIP, rJJ, rJI, rJP, rPP, rPI, rPJ, g1, g2, g3, g4, g5, g6, g7, g8, Nat.reduceEqDiff, Nat.reduceAdd, false_and, and_false, true_and, and_true, reduceIte, nZ0, nZ1, eσ37_38.1, eσ37_38.2, eσ37_52.1, eσ37_52.2, eσ37_53.1, eσ37_53.2, sσ37_33.1, sσ37_33.2, sσ37_34.1, sσ37_34.2, sσ37_36.1, sσ37_36.2, sσ37_50.1, sσ37_50.2, fun a k => (jσ37 a k).1, fun a k => (jσ37 a k).2, pσ37, obσ37]) <;> exact c9 i hi) (fun σ40 r41 rσ40 fc p6 => ?_)
        have fσ40 : Fr ra jx rm [20, 26, 40, 41, 42, 43, 44, 45, 46, 47, 48, 49, 54, 55, 56, 57, 58, 59, 60, 61, 62, 63, 64, 65, 68, 69, 70, 71, 72, 73, 74, 75, 76, 77, 78, 81, 82, 83, 84, 85, 86, 87, 88, 89, 97, 98, 99, 100, 101, 102, 103, 104, 105, 106, 107, 108, 109] [21, 27, 31, 32, 35, 66, 67, 79, 80, 90, 91, 92, 93, 96, 110, 111, 113] σ σ40 := Fr.tr (by refine Fr.sJ g ?_ (by decide); exact fσ37) (Fr.mor (fc) (by decide) (by decide))
        have t8 := p6.1
        have r8 := RecE.fr (RecE.fr (K := []) (S := [111]) r9 (by repeat (first | exact Fr.rf | assumption | refine Fr.aJ g ?_ (by decide) | refine Fr.aI g ?_ (by decide) | refine Fr.sI g ?_ (by decide) | refine Fr.sJ g ?_ (by decide))) (by decide) (by decide)) fc (by decide) (by decide)
        have e8 := HeE.fr (HeE.fr (jx := jx) (K := []) (S := [111]) e9 (by repeat (first | exact Fr.rf | assumption | refine Fr.aJ g ?_ (by decide) | refine Fr.aI g ?_ (by decide) | refine Fr.sI g ?_ (by decide) | refine Fr.sJ g ?_ (by decide))) (by decide) (by decide)) fc (by decide) (by decide)
        have m8 := MkI.fr (MkI.fr (rm := rm) (K := []) (S := [111]) m9 (by repeat (first | exact Fr.rf | assumption | refine Fr.aJ g ?_ (by decide) | refine Fr.aI g ?_ (by decide) | refine Fr.sI g ?_ (by decide) | refine Fr.sJ g ?_ (by decide))) (by decide)) fc (by decide)
        have t9 := t8; have r9 := r8; have e9 := e8; have m9 := m8; clear t8 r8 e8 m8
        have l9 := LcI.fr (LcI.fr (jx := jx) (K := []) (S := [111]) l9 (by repeat (first | exact Fr.rf | assumption | refine Fr.aJ g ?_ (by decide) | refine Fr.aI g ?_ (by decide) | refine Fr.sI g ?_ (by decide) | refine Fr.sJ g ?_ (by decide))) (by decide) (by decide)) fc (by decide) (by decide)
        have c9 : ∀ i : Nat, i < 1100 → gI σ40 (ra 54) i ≤ gI σ rm 34 := fun i hi => Int.le_trans (p6.2 i hi) (by (try simp only [rII, rIJ, rIP, rJJ, rJI, rJP, rPP, rPI, rPJ, g1, g2, g3, g4, g5, g6, g7, g8, Nat.reduceEqDiff, Nat.reduceAdd, false_and, and_false, true_and, and_true, reduceIte, nZ0, nZ1, eσ37_38.1, eσ37_38.2, eσ37_52.1, eσ37_52.2, eσ37_53.1, eσ37_53.2, sσ37_33.1, sσ37_33.2, sσ37_34.1, sσ37_34.2, sσ37_36.1, sσ37_36.2, sσ37_50.1, sσ37_50.2, fun a k => (jσ37 a k).1, fun a k => (jσ37 a k).2, pσ37, obσ37]) <;> exact Int.le_refl _)
        have eσ40_38 := fσ40.1 38 (by decide)
        have eσ40_52 := fσ40.1 52 (by decide)
        have eσ40_53 := fσ40.1 53 (by decide)
        have sσ40_33 := fσ40.2.1 33 (by decide)
        have sσ40_34 := fσ40.2.1 34 (by decide)
        have sσ40_36 := fσ40.2.1 36 (by decide)
        have sσ40_50 := fσ40.2.1 50 (by decide)
        have jσ40 := fσ40.2.2.1
        have pσ40 := fσ40.2.2.2
        have obσ40 := Fr.ob fσ40 hja (by decide)
        try simp only [forall_eq, rII, rIJ, rIP, rJJ, rJI, rJP, rPP, rPI, rPJ, g1, g2, g3, g4, g5, g6, g7, g8, Nat.reduceEqDiff, Nat.reduceAdd, false_and, and_false, true_and, and_true, reduceIte, nZ0, nZ1, eσ40_38.1, eσ40_38.2, eσ40_52.1, eσ40_52.2, eσ40_53.1, eσ40_53.2, sσ40_33.1, sσ40_33.2, sσ40_34.1, sσ40_34.2, sσ40_36.1, sσ40_36.2, sσ40_50.1, sσ40_50.2, fun a k => (jσ40 a k).1, fun a k => (jσ40 a k).2, pσ40, obσ40]
        unfold w_X16_oneTurn_116
        try simp only [forall_eq, rII, rIJ, rIP, rJJ, rJI, rJP, rPP, rPI, rPJ, g1, g2, g3, g4, g5, g6, g7, g8, Nat.reduceEqDiff, Nat.reduceAdd, false_and, and_false, true_and, and_true, reduceIte, nZ0, nZ1, eσ40_38.1, eσ40_38.2, eσ40_52.1, eσ40_52.2, eσ40_53.1, eσ40_53.2, sσ40_33.1, sσ40_33.2, sσ40_34.1, sσ40_34.2, sσ40_36.1, sσ40_36.2, sσ40_50.1, sσ40_50.2, fun a k => (jσ40 a k).1, fun a k => (jσ40 a k).2, pσ40, obσ40]
        unfold w_X16_oneTurn_138
        try simp only [forall_eq, rII, rIJ, rIP, rJJ, rJI, rJP, rPP, rPI, rPJ, g1, g2, g3, g4, g5, g6, g7, g8, Nat.reduceEqDiff, Nat.reduceAdd, false_and, and_false, true_and, and_true, reduceIte, nZ0, nZ1, eσ40_38.1, eσ40_38.2, eσ40_52.1, eσ40_52.2, eσ40_53.1, eσ40_53.2, sσ40_33.1, sσ40_33.2, sσ40_34.1, sσ40_34.2, sσ40_36.1, sσ40_36.2, sσ40_50.1, sσ40_50.2, fun a k => (jσ40 a k).1, fun a k => (jσ40 a k).2, pσ40, obσ40]
        have q7 := rσ40.2.1 113; simp only [rgS] at q7
        refine hQ _ _ ?_ ?_ ?_
        · exact rσ40
        · exact fσ40
        · exact ⟨⟨⟨t9, r9, e9, m9⟩, l9, c9⟩, by omega⟩
      · rename_i hc98
        skip
        unfold w_X16_oneTurn_101
        try simp only [forall_eq, rII, rIJ, rIP, rJJ, rJI, rJP, rPP, rPI, rPJ, g1, g2, g3, g4, g5, g6, g7, g8, Nat.reduceEqDiff, Nat.reduceAdd, false_and, and_false, true_and, and_true, reduceIte, nZ0, nZ1, eσ37_38.1, eσ37_38.2, eσ37_52.1, eσ37_52.2, eσ37_53.1, eσ37_53.2, sσ37_33.1, sσ37_33.2, sσ37_34.1, sσ37_34.2, sσ37_36.1, sσ37_36.2, sσ37_50.1, sσ37_50.2, fun a k => (jσ37 a k).1, fun a k => (jσ37 a k).2, pσ37, obσ37]
        unfold w_X16_oneTurn_106
        try simp only [forall_eq, rII, rIJ, rIP, rJJ, rJI, rJP, rPP, rPI, rPJ, g1, g2, g3, g4, g5, g6, g7, g8, Nat.reduceEqDiff, Nat.reduceAdd, false_and, and_false, true_and, and_true, reduceIte, nZ0, nZ1, eσ37_38.1, eσ37_38.2, eσ37_52.1, eσ37_52.2, eσ37_53.1, eσ37_53.2, sσ37_33.1, sσ37_33.2, sσ37_34.1, sσ37_34.2, sσ37_36.1, sσ37_36.2, sσ37_50.1, sσ37_50.2, fun a k => (jσ37 a k).1, fun a k => (jσ37 a k).2, pσ37, obσ37]
        refine s_X16_flush g (by refine Rg.sJ g ?_; exact rσ37) (by first | exact t9 | exact ThE.fr (jx := jx) (K := []) (S := [113, 110, 35]) t9 (by repeat (first | exact Fr.rf | assumption | refine Fr.aJ g ?_ (by decide) | refine Fr.aI g ?_ (by decide) | refine Fr.sI g ?_ (by decide) | refine Fr.sJ g ?_ (by decide))) (by decide) (by decide) | exact ThE.fr (jx := jx) (K := []) (S := [111]) t9 (by repeat (first | exact Fr.rf | assumption | refine Fr.aJ g ?_ (by decide) | refine Fr.aI g ?_ (by decide) | refine Fr.sI g ?_ (by decide) | refine Fr.sJ g ?_ (by decide))) (by decide) (by decide)) (by have z9 := htu; exact ⟨z9.1, by omega⟩) (by intro i hi; (try simp only [rII, rIJ, rIP, rJJ, rJI, rJP, rPP, rPI, rPJ, g1, g2, g3, g4, g5, g6, g7, g8, Nat.reduceEqDiff, Nat.reduceAdd, false_and, and_false, true_and, and_true, reduceIte, nZ0, nZ1, eσ37_38.1, eσ37_38.2, eσ37_52.1, eσ37_52.2, eσ37_53.1, eσ37_53.2, sσ37_33.1, sσ37_33.2, sσ37_34.1, sσ37_34.2, sσ37_36.1, sσ37_36.2, sσ37_50.1, sσ37_50.2, fun a k => (jσ37 a k).1, fun a k => (jσ37 a k).2, pσ37, obσ37]) <;> exact c9 i hi) (fun σ43 r44 rσ43 fc p8 => ?_)
        have fσ43 : Fr ra jx rm [20, 26, 40, 41, 42, 43, 44, 45, 46, 47, 48, 49, 54, 55, 56, 57, 58, 59, 60, 61, 62, 63, 64, 65, 68, 69, 70, 71, 72, 73, 74, 75, 76, 77, 78, 81, 82, 83, 84, 85, 86, 87, 88, 89, 97, 98, 99, 100, 101, 102, 103, 104, 105, 106, 107, 108, 109] [21, 27, 31, 32, 35, 66, 67, 79, 80, 90, 91, 92, 93, 96, 110, 111, 113] σ σ43 := Fr.tr (by refine Fr.sJ g ?_ (by decide); exact fσ37) (Fr.mor (fc) (by decide) (by decide))
        have t8 := p8.1
        have r8 := RecE.fr (RecE.fr (K := []) (S := [111]) r9 (by repeat (first | exact Fr.rf | assumption | refine Fr.aJ g ?_ (by decide) | refine Fr.aI g ?_ (by decide) | refine Fr.sI g ?_ (by decide) | refine Fr.sJ g ?_ (by decide))) (by decide) (by decide)) fc (by decide) (by decide)
        have e8 := HeE.fr (HeE.fr (jx := jx) (K := []) (S := [111]) e9 (by repeat (first | exact Fr.rf | assumption | refine Fr.aJ g ?_ (by decide) | refine Fr.aI g ?_ (by decide) | refine Fr.sI g ?_ (by decide) | refine Fr.sJ g ?_ (by decide))) (by decide) (by decide)) fc (by decide) (by decide)
        have m8 := MkI.fr (MkI.fr (rm := rm) (K := []) (S := [111]) m9 (by repeat (first | exact Fr.rf | assumption | refine Fr.aJ g ?_ (by decide) | refine Fr.aI g ?_ (by decide) | refine Fr.sI g ?_ (by decide) | refine Fr.sJ g ?_ (by decide))) (by decide)) fc (by decide)
        have t9 := t8; have r9 := r8; have e9 := e8; have m9 := m8; clear t8 r8 e8 m8
        have l9 := LcI.fr (LcI.fr (jx := jx) (K := []) (S := [111]) l9 (by repeat (first | exact Fr.rf | assumption | refine Fr.aJ g ?_ (by decide) | refine Fr.aI g ?_ (by decide) | refine Fr.sI g ?_ (by decide) | refine Fr.sJ g ?_ (by decide))) (by decide) (by decide)) fc (by decide) (by decide)
        have c9 : ∀ i : Nat, i < 1100 → gI σ43 (ra 54) i ≤ gI σ rm 34 := fun i hi => Int.le_trans (p8.2 i hi) (by (try simp only [rII, rIJ, rIP, rJJ, rJI, rJP, rPP, rPI, rPJ, g1, g2, g3, g4, g5, g6, g7, g8, Nat.reduceEqDiff, Nat.reduceAdd, false_and, and_false, true_and, and_true, reduceIte, nZ0, nZ1, eσ37_38.1, eσ37_38.2, eσ37_52.1, eσ37_52.2, eσ37_53.1, eσ37_53.2, sσ37_33.1, sσ37_33.2, sσ37_34.1, sσ37_34.2, sσ37_36.1, sσ37_36.2, sσ37_50.1, sσ37_50.2, fun a k => (jσ37 a k).1, fun a k => (jσ37 a k).2, pσ37, obσ37]) <;> exact Int.le_refl _)
        have eσ43_38 := fσ43.1 38 (by decide)
        have eσ43_52 := fσ43.1 52 (by decide)
        have eσ43_53 := fσ43.1 53 (by decide)
        have sσ43_33 := fσ43.2.1 33 (by decide)
        have sσ43_34 := fσ43.2.1 34 (by decide)
        have sσ43_36 := fσ43.2.1 36 (by decide)
        have sσ43_50 := fσ43.2.1 50 (by decide)
        have jσ43 := fσ43.2.2.1
        have pσ43 := fσ43.2.2.2
        have obσ43 := Fr.ob fσ43 hja (by decide)
        try simp only [forall_eq, rII, rIJ, rIP, rJJ, rJI, rJP, rPP, rPI, rPJ, g1, g2, g3, g4, g5, g6, g7, g8, Nat.reduceEqDiff, Nat.reduceAdd, false_and, and_false, true_and, and_true, reduceIte, nZ0, nZ1, eσ43_38.1, eσ43_38.2, eσ43_52.1, eσ43_52.2, eσ43_53.1, eσ43_53.2, sσ43_33.1, sσ43_33.2, sσ43_34.1, sσ43_34.2, sσ43_36.1, sσ43_36.2, sσ43_50.1, sσ43_50.2, fun a k => (jσ43 a k).1, fun a k => (jσ43 a k).2, pσ43, obσ43]
        unfold w_X16_oneTurn_116
        try simp only [forall_eq, rII, rIJ, rIP, rJJ, rJI, rJP, rPP, rPI, rPJ, g1, g2, g3, g4, g5, g6, g7, g8, Nat.reduceEqDiff, Nat.reduceAdd, false_and, and_false, true_and, and_true, reduceIte, nZ0, nZ1, eσ43_38.1, eσ43_38.2, eσ43_52.1, eσ43_52.2, eσ43_53.1, eσ43_53.2, sσ43_33.1, sσ43_33.2, sσ43_34.1, sσ43_34.2, sσ43_36.1, sσ43_36.2, sσ43_50.1, sσ43_50.2, fun a k => (jσ43 a k).1, fun a k => (jσ43 a k).2, pσ43, obσ43]
        unfold w_X16_oneTurn_138
        try simp only [forall_eq, rII, rIJ, rIP, rJJ, rJI, rJP, rPP, rPI, rPJ, g1, g2, g3, g4, g5, g6, g7, g8, Nat.reduceEqDiff, Nat.reduceAdd, false_and, and_false, true_and, and_true, reduceIte, nZ0, nZ1, eσ43_38.1, eσ43_38.2, eσ43_52.1, eσ43_52.2, eσ43_53.1, eσ43_53.2, sσ43_33.1, sσ43_33.2, sσ43_34.1, sσ43_34.2, sσ43_36.1, sσ43_36.2, sσ43_50.1, sσ43_50.2, fun a k => (jσ43 a k).1, fun a k => (jσ43 a k).2, pσ43, obσ43]
        have q9 := rσ43.2.1 113; simp only [rgS] at q9
        refine hQ _ _ ?_ ?_ ?_
        · exact rσ43
        · exact fσ43
        · exact ⟨⟨⟨t9, r9, e9, m9⟩, l9, c9⟩, by omega⟩
    · rename_i hc75
      skip
      unfold w_X16_oneTurn_78
      try simp only [forall_eq, rII, rIJ, rIP, rJJ, rJI, rJP, rPP, rPI, rPJ, g1, g2, g3, g4, g5, g6, g7, g8, Nat.reduceEqDiff, Nat.reduceAdd, false_and, and_false, true_and, and_true, reduceIte, nZ0, nZ1, eσ34_38.1, eσ34_38.2, eσ34_52.1, eσ34_52.2, eσ34_53.1, eσ34_53.2, sσ34_33.1, sσ34_33.2, sσ34_34.1, sσ34_34.2, sσ34_36.1, sσ34_36.2, sσ34_50.1, sσ34_50.2, fun a k => (jσ34 a k).1, fun a k => (jσ34 a k).2, pσ34, obσ34]
      refine s_X16_sourceTurn g rσ34 (by first | exact hj | (rw [fσ34.2.2.2]; exact hj)) hja r9 (by first | exact t9 | exact ThE.fr (jx := jx) (K := []) (S := [113, 110, 35]) t9 (by repeat (first | exact Fr.rf | assumption | refine Fr.aJ g ?_ (by decide) | refine Fr.aI g ?_ (by decide) | refine Fr.sI g ?_ (by decide) | refine Fr.sJ g ?_ (by decide))) (by decide) (by decide) | exact ThE.fr (jx := jx) (K := []) (S := [111]) t9 (by repeat (first | exact Fr.rf | assumption | refine Fr.aJ g ?_ (by decide) | refine Fr.aI g ?_ (by decide) | refine Fr.sI g ?_ (by decide) | refine Fr.sJ g ?_ (by decide))) (by decide) (by decide)) e9 m9 (by have z9 := htu; exact ⟨z9.1, by omega⟩) (by (try simp only [rII, rIJ, rIP, rJJ, rJI, rJP, rPP, rPI, rPJ, g1, g2, g3, g4, g5, g6, g7, g8, Nat.reduceEqDiff, Nat.reduceAdd, false_and, and_false, true_and, and_true, reduceIte, nZ0, nZ1, eσ34_38.1, eσ34_38.2, eσ34_52.1, eσ34_52.2, eσ34_53.1, eσ34_53.2, sσ34_33.1, sσ34_33.2, sσ34_34.1, sσ34_34.2, sσ34_36.1, sσ34_36.2, sσ34_50.1, sσ34_50.2, fun a k => (jσ34 a k).1, fun a k => (jσ34 a k).2, pσ34, obσ34]) <;> first | exact hp | (rw [(fσ34.2.1 33 (by decide)).1]; exact hp)) (by (try simp only [rII, rIJ, rIP, rJJ, rJI, rJP, rPP, rPI, rPJ, g1, g2, g3, g4, g5, g6, g7, g8, Nat.reduceEqDiff, Nat.reduceAdd, false_and, and_false, true_and, and_true, reduceIte, nZ0, nZ1, eσ34_38.1, eσ34_38.2, eσ34_52.1, eσ34_52.2, eσ34_53.1, eσ34_53.2, sσ34_33.1, sσ34_33.2, sσ34_34.1, sσ34_34.2, sσ34_36.1, sσ34_36.2, sσ34_50.1, sσ34_50.2, fun a k => (jσ34 a k).1, fun a k => (jσ34 a k).2, pσ34, obσ34]) <;> first | assumption | exact Classical.not_not.mp (by assumption)) (by (try simp only [rII, rIJ, rIP, rJJ, rJI, rJP, rPP, rPI, rPJ, g1, g2, g3, g4, g5, g6, g7, g8, Nat.reduceEqDiff, Nat.reduceAdd, false_and, and_false, true_and, and_true, reduceIte, nZ0, nZ1, eσ34_38.1, eσ34_38.2, eσ34_52.1, eσ34_52.2, eσ34_53.1, eσ34_53.2, sσ34_33.1, sσ34_33.2, sσ34_34.1, sσ34_34.2, sσ34_36.1, sσ34_36.2, sσ34_50.1, sσ34_50.2, fun a k => (jσ34 a k).1, fun a k => (jσ34 a k).2, pσ34, obσ34]) <;> exact JobOK.fr (K := [20, 26, 40, 41, 42, 43, 44, 45, 46, 47, 48, 49, 54, 55, 56, 57, 58, 59, 60, 61, 62, 63, 64, 65, 68, 69, 70, 71, 72, 73, 74, 75, 76, 77, 78, 81, 82, 83, 84, 85, 86, 87, 88, 89, 97, 98, 99, 100, 101, 102, 103, 104, 105, 106, 107, 108, 109]) (S := [21, 27, 31, 32, 35, 66, 67, 79, 80, 90, 91, 92, 93, 96, 110, 111, 113]) hjo hja (by repeat (first | exact Fr.rf | assumption | refine Fr.aJ g ?_ (by decide) | refine Fr.aI g ?_ (by decide) | refine Fr.sI g ?_ (by decide) | refine Fr.sJ g ?_ (by decide))) (by decide)) (by (try simp only [rII, rIJ, rIP, rJJ, rJI, rJP, rPP, rPI, rPJ, g1, g2, g3, g4, g5, g6, g7, g8, Nat.reduceEqDiff, Nat.reduceAdd, false_and, and_false, true_and, and_true, reduceIte, nZ0, nZ1, eσ34_38.1, eσ34_38.2, eσ34_52.1, eσ34_52.2, eσ34_53.1, eσ34_53.2, sσ34_33.1, sσ34_33.2, sσ34_34.1, sσ34_34.2, sσ34_36.1, sσ34_36.2, sσ34_50.1, sσ34_50.2, fun a k => (jσ34 a k).1, fun a k => (jσ34 a k).2, pσ34, obσ34]) <;> exact hly.2.2 _ htu.1 htu.2) (fun σ45 r46 rσ45 fc p10 => ?_) (fun σx E rx fx px => hxT _ _ rx (Fr.tr fσ34 (Fr.mor (fx) (by decide) (by decide))) ⟨px.1, px.2, LcI.fr l9 fx (by decide) (by decide), fun i hi => by rw [(fx.1 54 (by decide)).1]; exact c9 i hi⟩)
      have fσ45 : Fr ra jx rm [20, 26, 40, 41, 42, 43, 44, 45, 46, 47, 48, 49, 54, 55, 56, 57, 58, 59, 60, 61, 62, 63, 64, 65, 68, 69, 70, 71, 72, 73, 74, 75, 76, 77, 78, 81, 82, 83, 84, 85, 86, 87, 88, 89, 97, 98, 99, 100, 101, 102, 103, 104, 105, 106, 107, 108, 109] [21, 27, 31, 32, 35, 66, 67, 79, 80, 90, 91, 92, 93, 96, 110, 111, 113] σ σ45 := Fr.tr fσ34 (Fr.mor (fc) (by decide) (by decide))
      have t8 := p10.1
      have r8 := p10.2.1
      have e8 := p10.2.2.1
      have m8 := p10.2.2.2
      have t9 := t8; have r9 := r8; have e9 := e8; have m9 := m8; clear t8 r8 e8 m8
      have l9 := LcI.fr l9 fc (by decide) (by decide)
      have c9 : ∀ i : Nat, i < 1100 → gI σ45 (ra 54) i ≤ gI σ rm 34 := fun i hi => by rw [(fc.1 54 (by decide)).1]; exact c9 i hi
      have eσ45_38 := fσ45.1 38 (by decide)
      have eσ45_52 := fσ45.1 52 (by decide)
      have eσ45_53 := fσ45.1 53 (by decide)
      have sσ45_33 := fσ45.2.1 33 (by decide)
      have sσ45_34 := fσ45.2.1 34 (by decide)
      have sσ45_36 := fσ45.2.1 36 (by decide)
      have sσ45_50 := fσ45.2.1 50 (by decide)
      have jσ45 := fσ45.2.2.1
      have pσ45 := fσ45.2.2.2
      have obσ45 := Fr.ob fσ45 hja (by decide)
      try simp only [forall_eq, rII, rIJ, rIP, rJJ, rJI, rJP, rPP, rPI, rPJ, g1, g2, g3, g4, g5, g6, g7, g8, Nat.reduceEqDiff, Nat.reduceAdd, false_and, and_false, true_and, and_true, reduceIte, nZ0, nZ1, eσ45_38.1, eσ45_38.2, eσ45_52.1, eσ45_52.2, eσ45_53.1, eσ45_53.2, sσ45_33.1, sσ45_33.2, sσ45_34.1, sσ45_34.2, sσ45_36.1, sσ45_36.2, sσ45_50.1, sσ45_50.2, fun a k => (jσ45 a k).1, fun a k => (jσ45 a k).2, pσ45, obσ45]
      unfold w_X16_oneTurn_91
      try simp only [forall_eq, rII, rIJ, rIP, rJJ, rJI, rJP, rPP, rPI, rPJ, g1, g2, g3, g4, g5, g6, g7, g8, Nat.reduceEqDiff, Nat.reduceAdd, false_and, and_false, true_and, and_true, reduceIte, nZ0, nZ1, eσ45_38.1, eσ45_38.2, eσ45_52.1, eσ45_52.2, eσ45_53.1, eσ45_53.2, sσ45_33.1, sσ45_33.2, sσ45_34.1, sσ45_34.2, sσ45_36.1, sσ45_36.2, sσ45_50.1, sσ45_50.2, fun a k => (jσ45 a k).1, fun a k => (jσ45 a k).2, pσ45, obσ45]
      split
      · rename_i hc98
        skip
        unfold w_X16_oneTurn_105
        try simp only [forall_eq, rII, rIJ, rIP, rJJ, rJI, rJP, rPP, rPI, rPJ, g1, g2, g3, g4, g5, g6, g7, g8, Nat.reduceEqDiff, Nat.reduceAdd, false_and, and_false, true_and, and_true, reduceIte, nZ0, nZ1, eσ45_38.1, eσ45_38.2, eσ45_52.1, eσ45_52.2, eσ45_53.1, eσ45_53.2, sσ45_33.1, sσ45_33.2, sσ45_34.1, sσ45_34.2, sσ45_36.1, sσ45_36.2, sσ45_50.1, sσ45_50.2, fun a k => (jσ45 a k).1, fun a k => (jσ45 a k).2, pσ45, obσ45]
        unfold w_X16_oneTurn_106
        try simp only [forall_eq, rII, rIJ, rIP, rJJ, rJI, rJP, rPP, rPI, rPJ, g1, g2, g3, g4, g5, g6, g7, g8, Nat.reduceEqDiff, Nat.reduceAdd, false_and, and_false, true_and, and_true, reduceIte, nZ0, nZ1, eσ45_38.1, eσ45_38.2, eσ45_52.1, eσ45_52.2, eσ45_53.1, eσ45_53.2, sσ45_33.1, sσ45_33.2, sσ45_34.1, sσ45_34.2, sσ45_36.1, sσ45_36.2, sσ45_50.1, sσ45_50.2, fun a k => (jσ45 a k).1, fun a k => (jσ45 a k).2, pσ45, obσ45]
        refine s_X16_flush g (by refine Rg.sJ g ?_; exact rσ45) (by first | exact t9 | exact ThE.fr (jx := jx) (K := []) (S := [113, 110, 35]) t9 (by repeat (first | exact Fr.rf | assumption | refine Fr.aJ g ?_ (by decide) | refine Fr.aI g ?_ (by decide) | refine Fr.sI g ?_ (by decide) | refine Fr.sJ g ?_ (by decide))) (by decide) (by decide) | exact ThE.fr (jx := jx) (K := []) (S := [111]) t9 (by repeat (first | exact Fr.rf | assumption | refine Fr.aJ g ?_ (by decide) | refine Fr.aI g ?_ (by decide) | refine Fr.sI g ?_ (by decide) | refine Fr.sJ g ?_ (by decide))) (by decide) (by decide)) (by have z9 := htu; exact ⟨z9.1, by omega⟩) (by intro i hi; (try simp only [rII, rIJ, rIP, rJJ, rJI, rJP, rPP, rPI, rPJ, g1, g2, g3, g4, g5, g6, g7, g8, Nat.reduceEqDiff, Nat.reduceAdd, false_and, and_false, true_and, and_true, reduceIte, nZ0, nZ1, eσ45_38.1, eσ45_38.2, eσ45_52.1, eσ45_52.2, eσ45_53.1, eσ45_53.2, sσ45_33.1, sσ45_33.2, sσ45_34.1, sσ45_34.2, sσ45_36.1, sσ45_36.2, sσ45_50.1, sσ45_50.2, fun a k => (jσ45 a k).1, fun a k => (jσ45 a k).2, pσ45, obσ45]) <;> exact c9 i hi) (fun σ48 r49 rσ48 fc p11 => ?_)
        have fσ48 : Fr ra jx rm [20, 26, 40, 41, 42, 43, 44, 45, 46, 47, 48, 49, 54, 55, 56, 57, 58, 59, 60, 61, 62, 63, 64, 65, 68, 69, 70, 71, 72, 73, 74, 75, 76, 77, 78, 81, 82, 83, 84, 85, 86, 87, 88, 89, 97, 98, 99, 100, 101, 102, 103, 104, 105, 106, 107, 108, 109] [21, 27, 31, 32, 35, 66, 67, 79, 80, 90, 91, 92, 93, 96, 110, 111, 113] σ σ48 := Fr.tr (by refine Fr.sJ g ?_ (by decide); exact fσ45) (Fr.mor (fc) (by decide) (by decide))
        have t8 := p11.1
        have r8 := RecE.fr (RecE.fr (K := []) (S := [111]) r9 (by repeat (first | exact Fr.rf | assumption | refine Fr.aJ g ?_ (by decide) | refine Fr.aI g ?_ (by decide) | refine Fr.sI g ?_ (by decide) | refine Fr.sJ g ?_ (by decide))) (by decide) (by decide)) fc (by decide) (by decide)
        have e8 := HeE.fr (HeE.fr (jx := jx) (K := []) (S := [111]) e9 (by repeat (first | exact Fr.rf | assumption | refine Fr.aJ g ?_ (by decide) | refine Fr.aI g ?_ (by decide) | refine Fr.sI g ?_ (by decide) | refine Fr.sJ g ?_ (by decide))) (by decide) (by decide)) fc (by decide) (by decide)
        have m8 := MkI.fr (MkI.fr (rm := rm) (K := []) (S := [111]) m9 (by repeat (first | exact Fr.rf | assumption | refine Fr.aJ g ?_ (by decide) | refine Fr.aI g ?_ (by decide) | refine Fr.sI g ?_ (by decide) | refine Fr.sJ g ?_ (by decide))) (by decide)) fc (by decide)
        have t9 := t8; have r9 := r8; have e9 := e8; have m9 := m8; clear t8 r8 e8 m8
        have l9 := LcI.fr (LcI.fr (jx := jx) (K := []) (S := [111]) l9 (by repeat (first | exact Fr.rf | assumption | refine Fr.aJ g ?_ (by decide) | refine Fr.aI g ?_ (by decide) | refine Fr.sI g ?_ (by decide) | refine Fr.sJ g ?_ (by decide))) (by decide) (by decide)) fc (by decide) (by decide)
        have c9 : ∀ i : Nat, i < 1100 → gI σ48 (ra 54) i ≤ gI σ rm 34 := fun i hi => Int.le_trans (p11.2 i hi) (by (try simp only [rII, rIJ, rIP, rJJ, rJI, rJP, rPP, rPI, rPJ, g1, g2, g3, g4, g5, g6, g7, g8, Nat.reduceEqDiff, Nat.reduceAdd, false_and, and_false, true_and, and_true, reduceIte, nZ0, nZ1, eσ45_38.1, eσ45_38.2, eσ45_52.1, eσ45_52.2, eσ45_53.1, eσ45_53.2, sσ45_33.1, sσ45_33.2, sσ45_34.1, sσ45_34.2, sσ45_36.1, sσ45_36.2, sσ45_50.1, sσ45_50.2, fun a k => (jσ45 a k).1, fun a k => (jσ45 a k).2, pσ45, obσ45]) <;> exact Int.le_refl _)
        have eσ48_38 := fσ48.1 38 (by decide)
        have eσ48_52 := fσ48.1 52 (by decide)
        have eσ48_53 := fσ48.1 53 (by decide)
        have sσ48_33 := fσ48.2.1 33 (by decide)
        have sσ48_34 := fσ48.2.1 34 (by decide)
        have sσ48_36 := fσ48.2.1 36 (by decide)
        have sσ48_50 := fσ48.2.1 50 (by decide)
        have jσ48 := fσ48.2.2.1
        have pσ48 := fσ48.2.2.2
        have obσ48 := Fr.ob fσ48 hja (by decide)
        try simp only [forall_eq, rII, rIJ, rIP, rJJ, rJI, rJP, rPP, rPI, rPJ, g1, g2, g3, g4, g5, g6, g7, g8, Nat.reduceEqDiff, Nat.reduceAdd, false_and, and_false, true_and, and_true, reduceIte, nZ0, nZ1, eσ48_38.1, eσ48_38.2, eσ48_52.1, eσ48_52.2, eσ48_53.1, eσ48_53.2, sσ48_33.1, sσ48_33.2, sσ48_34.1, sσ48_34.2, sσ48_36.1, sσ48_36.2, sσ48_50.1, sσ48_50.2, fun a k => (jσ48 a k).1, fun a k => (jσ48 a k).2, pσ48, obσ48]
        unfold w_X16_oneTurn_116
        try simp only [forall_eq, rII, rIJ, rIP, rJJ, rJI, rJP, rPP, rPI, rPJ, g1, g2, g3, g4, g5, g6, g7, g8, Nat.reduceEqDiff, Nat.reduceAdd, false_and, and_false, true_and, and_true, reduceIte, nZ0, nZ1, eσ48_38.1, eσ48_38.2, eσ48_52.1, eσ48_52.2, eσ48_53.1, eσ48_53.2, sσ48_33.1, sσ48_33.2, sσ48_34.1, sσ48_34.2, sσ48_36.1, sσ48_36.2, sσ48_50.1, sσ48_50.2, fun a k => (jσ48 a k).1, fun a k => (jσ48 a k).2, pσ48, obσ48]
        unfold w_X16_oneTurn_138
        try simp only [forall_eq, rII, rIJ, rIP, rJJ, rJI, rJP, rPP, rPI, rPJ, g1, g2, g3, g4, g5, g6, g7, g8, Nat.reduceEqDiff, Nat.reduceAdd, false_and, and_false, true_and, and_true, reduceIte, nZ0, nZ1, eσ48_38.1, eσ48_38.2, eσ48_52.1, eσ48_52.2, eσ48_53.1, eσ48_53.2, sσ48_33.1, sσ48_33.2, sσ48_34.1, sσ48_34.2, sσ48_36.1, sσ48_36.2, sσ48_50.1, sσ48_50.2, fun a k => (jσ48 a k).1, fun a k => (jσ48 a k).2, pσ48, obσ48]
        have q12 := rσ48.2.1 113; simp only [rgS] at q12
        refine hQ _ _ ?_ ?_ ?_
        · exact rσ48
        · exact fσ48
        · exact ⟨⟨⟨t9, r9, e9, m9⟩, l9, c9⟩, by omega⟩
      · rename_i hc98
        skip
        unfold w_X16_oneTurn_101
        try simp only [forall_eq, rII, rIJ, rIP, rJJ, rJI, rJP, rPP, rPI, rPJ, g1, g2, g3, g4, g5, g6, g7, g8, Nat.reduceEqDiff, Nat.reduceAdd, false_and, and_false, true_and, and_true, reduceIte, nZ0, nZ1, eσ45_38.1, eσ45_38.2, eσ45_52.1, eσ45_52.2, eσ45_53.1, eσ45_53.2, sσ45_33.1, sσ45_33.2, sσ45_34.1, sσ45_34.2, sσ45_36.1, sσ45_36.2, sσ45_50.1, sσ45_50.2, fun a k => (jσ45 a k).1, fun a k => (jσ45 a k).2, pσ45, obσ45]
        unfold w_X16_oneTurn_106
        try simp only [forall_eq, rII, rIJ, rIP, rJJ, rJI, rJP, rPP, rPI, rPJ, g1, g2, g3, g4, g5, g6, g7, g8, Nat.reduceEqDiff, Nat.reduceAdd, false_and, and_false, true_and, and_true, reduceIte, nZ0, nZ1, eσ45_38.1, eσ45_38.2, eσ45_52.1, eσ45_52.2, eσ45_53.1, eσ45_53.2, sσ45_33.1, sσ45_33.2, sσ45_34.1, sσ45_34.2, sσ45_36.1, sσ45_36.2, sσ45_50.1, sσ45_50.2, fun a k => (jσ45 a k).1, fun a k => (jσ45 a k).2, pσ45, obσ45]
        refine s_X16_flush g (by refine Rg.sJ g ?_; exact rσ45) (by first | exact t9 | exact ThE.fr (jx := jx) (K := []) (S := [113, 110, 35]) t9 (by repeat (first | exact Fr.rf | assumption | refine Fr.aJ g ?_ (by decide) | refine Fr.aI g ?_ (by decide) | refine Fr.sI g ?_ (by decide) | refine Fr.sJ g ?_ (by decide))) (by decide) (by decide) | exact ThE.fr (jx := jx) (K := []) (S := [111]) t9 (by repeat (first | exact Fr.rf | assumption | refine Fr.aJ g ?_ (by decide) | refine Fr.aI g ?_ (by decide) | refine Fr.sI g ?_ (by decide) | refine Fr.sJ g ?_ (by decide))) (by decide) (by decide)) (by have z9 := htu; exact ⟨z9.1, by omega⟩) (by intro i hi; (try simp only [rII, rIJ, rIP, rJJ, rJI, rJP, rPP, rPI, rPJ, g1, g2, g3, g4, g5, g6, g7, g8, Nat.reduceEqDiff, Nat.reduceAdd, false_and, and_false, true_and, and_true, reduceIte, nZ0, nZ1, eσ45_38.1, eσ45_38.2, eσ45_52.1, eσ45_52.2, eσ45_53.1, eσ45_53.2, sσ45_33.1, sσ45_33.2, sσ45_34.1, sσ45_34.2, sσ45_36.1, sσ45_36.2, sσ45_50.1, sσ45_50.2, fun a k => (jσ45 a k).1, fun a k => (jσ45 a k).2, pσ45, obσ45]) <;> exact c9 i hi) (fun σ51 r52 rσ51 fc p13 => ?_)
        have fσ51 : Fr ra jx rm [20, 26, 40, 41, 42, 43, 44, 45, 46, 47, 48, 49, 54, 55, 56, 57, 58, 59, 60, 61, 62, 63, 64, 65, 68, 69, 70, 71, 72, 73, 74, 75, 76, 77, 78, 81, 82, 83, 84, 85, 86, 87, 88, 89, 97, 98, 99, 100, 101, 102, 103, 104, 105, 106, 107, 108, 109] [21, 27, 31, 32, 35, 66, 67, 79, 80, 90, 91, 92, 93, 96, 110, 111, 113] σ σ51 := Fr.tr (by refine Fr.sJ g ?_ (by decide); exact fσ45) (Fr.mor (fc) (by decide) (by decide))
        have t8 := p13.1
        have r8 := RecE.fr (RecE.fr (K := []) (S := [111]) r9 (by repeat (first | exact Fr.rf | assumption | refine Fr.aJ g ?_ (by decide) | refine Fr.aI g ?_ (by decide) | refine Fr.sI g ?_ (by decide) | refine Fr.sJ g ?_ (by decide))) (by decide) (by decide)) fc (by decide) (by decide)
        have e8 := HeE.fr (HeE.fr (jx := jx) (K := []) (S := [111]) e9 (by repeat (first | exact Fr.rf | assumption | refine Fr.aJ g ?_ (by decide) | refine Fr.aI g ?_ (by decide) | refine Fr.sI g ?_ (by decide) | refine Fr.sJ g ?_ (by decide))) (by decide) (by decide)) fc (by decide) (by decide)
        have m8 := MkI.fr (MkI.fr (rm := rm) (K := []) (S := [111]) m9 (by repeat (first | exact Fr.rf | assumption | refine Fr.aJ g ?_ (by decide) | refine Fr.aI g ?_ (by decide) | refine Fr.sI g ?_ (by decide) | refine Fr.sJ g ?_ (by decide))) (by decide)) fc (by decide)
        have t9 := t8; have r9 := r8; have e9 := e8; have m9 := m8; clear t8 r8 e8 m8
        have l9 := LcI.fr (LcI.fr (jx := jx) (K := []) (S := [111]) l9 (by repeat (first | exact Fr.rf | assumption | refine Fr.aJ g ?_ (by decide) | refine Fr.aI g ?_ (by decide) | refine Fr.sI g ?_ (by decide) | refine Fr.sJ g ?_ (by decide))) (by decide) (by decide)) fc (by decide) (by decide)
        have c9 : ∀ i : Nat, i < 1100 → gI σ51 (ra 54) i ≤ gI σ rm 34 := fun i hi => Int.le_trans (p13.2 i hi) (by (try simp only [rII, rIJ, rIP, rJJ, rJI, rJP, rPP, rPI, rPJ, g1, g2, g3, g4, g5, g6, g7, g8, Nat.reduceEqDiff, Nat.reduceAdd, false_and, and_false, true_and, and_true, reduceIte, nZ0, nZ1, eσ45_38.1, eσ45_38.2, eσ45_52.1, eσ45_52.2, eσ45_53.1, eσ45_53.2, sσ45_33.1, sσ45_33.2, sσ45_34.1, sσ45_34.2, sσ45_36.1, sσ45_36.2, sσ45_50.1, sσ45_50.2, fun a k => (jσ45 a k).1, fun a k => (jσ45 a k).2, pσ45, obσ45]) <;> exact Int.le_refl _)
        have eσ51_38 := fσ51.1 38 (by decide)
        have eσ51_52 := fσ51.1 52 (by decide)
        have eσ51_53 := fσ51.1 53 (by decide)
        have sσ51_33 := fσ51.2.1 33 (by decide)
        have sσ51_34 := fσ51.2.1 34 (by decide)
        have sσ51_36 := fσ51.2.1 36 (by decide)
        have sσ51_50 := fσ51.2.1 50 (by decide)
        have jσ51 := fσ51.2.2.1
        have pσ51 := fσ51.2.2.2
        have obσ51 := Fr.ob fσ51 hja (by decide)
        try simp only [forall_eq, rII, rIJ, rIP, rJJ, rJI, rJP, rPP, rPI, rPJ, g1, g2, g3, g4, g5, g6, g7, g8, Nat.reduceEqDiff, Nat.reduceAdd, false_and, and_false, true_and, and_true, reduceIte, nZ0, nZ1, eσ51_38.1, eσ51_38.2, eσ51_52.1, eσ51_52.2, eσ51_53.1, eσ51_53.2, sσ51_33.1, sσ51_33.2, sσ51_34.1, sσ51_34.2, sσ51_36.1, sσ51_36.2, sσ51_50.1, sσ51_50.2, fun a k => (jσ51 a k).1, fun a k => (jσ51 a k).2, pσ51, obσ51]
        unfold w_X16_oneTurn_116
        try simp only [forall_eq, rII, rIJ, rIP, rJJ, rJI, rJP, rPP, rPI, rPJ, g1, g2, g3, g4, g5, g6, g7, g8, Nat.reduceEqDiff, Nat.reduceAdd, false_and, and_false, true_and, and_true, reduceIte, nZ0, nZ1, eσ51_38.1, eσ51_38.2, eσ51_52.1, eσ51_52.2, eσ51_53.1, eσ51_53.2, sσ51_33.1, sσ51_33.2, sσ51_34.1, sσ51_34.2, sσ51_36.1, sσ51_36.2, sσ51_50.1, sσ51_50.2, fun a k => (jσ51 a k).1, fun a k => (jσ51 a k).2, pσ51, obσ51]
        unfold w_X16_oneTurn_138
        try simp only [forall_eq, rII, rIJ, rIP, rJJ, rJI, rJP, rPP, rPI, rPJ, g1, g2, g3, g4, g5, g6, g7, g8, Nat.reduceEqDiff, Nat.reduceAdd, false_and, and_false, true_and, and_true, reduceIte, nZ0, nZ1, eσ51_38.1, eσ51_38.2, eσ51_52.1, eσ51_52.2, eσ51_53.1, eσ51_53.2, sσ51_33.1, sσ51_33.2, sσ51_34.1, sσ51_34.2, sσ51_36.1, sσ51_36.2, sσ51_50.1, sσ51_50.2, fun a k => (jσ51 a k).1, fun a k => (jσ51 a k).2, pσ51, obσ51]
        have q14 := rσ51.2.1 113; simp only [rgS] at q14
        refine hQ _ _ ?_ ?_ ?_
        · exact rσ51
        · exact fσ51
        · exact ⟨⟨⟨t9, r9, e9, m9⟩, l9, c9⟩, by omega⟩
  · rename_i hc56
    skip
    unfold w_X16_oneTurn_59
    try simp only [forall_eq, rII, rIJ, rIP, rJJ, rJI, rJP, rPP, rPI, rPJ, g1, g2, g3, g4, g5, g6, g7, g8, Nat.reduceEqDiff, Nat.reduceAdd, false_and, and_false, true_and, and_true, reduceIte, nZ0, nZ1, eσ34_38.1, eσ34_38.2, eσ34_52.1, eσ34_52.2, eσ34_53.1, eσ34_53.2, sσ34_33.1, sσ34_33.2, sσ34_34.1, sσ34_34.2, sσ34_36.1, sσ34_36.2, sσ34_50.1, sσ34_50.2, fun a k => (jσ34 a k).1, fun a k => (jσ34 a k).2, pσ34, obσ34]
    unfold w_X16_oneTurn_60
    try simp only [forall_eq, rII, rIJ, rIP, rJJ, rJI, rJP, rPP, rPI, rPJ, g1, g2, g3, g4, g5, g6, g7, g8, Nat.reduceEqDiff, Nat.reduceAdd, false_and, and_false, true_and, and_true, reduceIte, nZ0, nZ1, eσ34_38.1, eσ34_38.2, eσ34_52.1, eσ34_52.2, eσ34_53.1, eσ34_53.2, sσ34_33.1, sσ34_33.2, sσ34_34.1, sσ34_34.2, sσ34_36.1, sσ34_36.2, sσ34_50.1, sσ34_50.2, fun a k => (jσ34 a k).1, fun a k => (jσ34 a k).2, pσ34, obσ34]
    refine hQ _ _ ?_ ?_ ?_
    · exact rσ34
    · exact fσ34
    · exact ⟨⟨⟨t9, r9, e9, m9⟩, l9, c9⟩, by omega⟩
set_option maxHeartbeats 4000000 in
theorem s_X16_turn {ra : Nat → Nat} {jx : Nat → Nat → Nat} {rm : Nat} {ja : Nat} (g : Geo ra jx rm) {σ : Sg} {v1 : Int} (rσ : Rg ra jx rm σ) (hja : ja = ra 15 ∨ ja = ra 16) (hR : gI σ rm 30 ≠ 0 → gP σ rm 17 = some ja ∧ ((ThE ra rm σ ∧ RecE ra jx rm ja σ ∧ HeE ra rm σ ∧ MkI ra jx ja σ) ∧ LcI ra rm σ ∧ (∀ i : Nat, i < 1100 → gI σ (ra 54) i ≤ gI σ rm 34)) ∧ 1 ≤ gI σ rm 33 ∧ JobOK jx ja σ ∧ 1 ≤ gI σ rm 36 ∧ LyI ra jx rm ja σ) (b1 : -2147483648 ≤ v1 ∧ v1 ≤ 2147483647) {Q : Sg → Int → Prop} {X : Sg → String → Prop} (hQ : ∀ (σ' : Sg) (r : Int), Rg ra jx rm σ' → Fr ra jx rm [20, 26, 40, 41, 42, 43, 44, 45, 46, 47, 48, 49, 54, 55, 56, 57, 58, 59, 60, 61, 62, 63, 64, 65, 68, 69, 70, 71, 72, 73, 74, 75, 76, 77, 78, 81, 82, 83, 84, 85, 86, 87, 88, 89, 97, 98, 99, 100, 101, 102, 103, 104, 105, 106, 107, 108, 109] [0, 21, 27, 31, 32, 35, 66, 67, 79, 80, 90, 91, 92, 93, 96, 110, 111, 113] σ σ' → (gI σ rm 30 ≠ 0 → (ThE ra rm σ' ∧ RecE ra jx rm ja σ' ∧ HeE ra rm σ' ∧ MkI ra jx ja σ') ∧ LcI ra rm σ' ∧ (∀ i : Nat, i < 1100 → gI σ' (ra 54) i ≤ gI σ rm 34)) → Q σ' r) : wp_X16_turn ra jx rm v1 σ Q X := by
  obtain ⟨g1, g2, g3, g4, g5, g6, g7, g8⟩ := id g
  have fσ : Fr ra jx rm [20, 26, 40, 41, 42, 43, 44, 45, 46, 47, 48, 49, 54, 55, 56, 57, 58, 59, 60, 61, 62, 63, 64, 65, 68, 69, 70, 71, 72, 73, 74, 75, 76, 77, 78, 81, 82, 83, 84, 85, 86, 87, 88, 89, 97, 98, 99, 100, 101, 102, 103, 104, 105, 106, 107, 108, 109] [0, 21, 27, 31, 32, 35, 66, 67, 79, 80, 90, 91, 92, 93, 96, 110, 111, 113] σ σ := Fr.rf
  unfold wp_X16_turn
  unfold w_X16_turn_0
  try simp only [forall_eq, rII, rIJ, rIP, rJJ, rJI, rJP, rPP, rPI, rPJ, g1, g2, g3, g4, g5, g6, g7, g8, Nat.reduceEqDiff, Nat.reduceAdd, false_and, and_false, true_and, and_true, reduceIte, nZ0, nZ1]
  have q1 := rσ.2.1 30; simp only [rgS] at q1
  split
  · rename_i hc5
    skip
    unfold w_X16_turn_15
    try simp only [forall_eq, rII, rIJ, rIP, rJJ, rJI, rJP, rPP, rPI, rPJ, g1, g2, g3, g4, g5, g6, g7, g8, Nat.reduceEqDiff, Nat.reduceAdd, false_and, and_false, true_and, and_true, reduceIte, nZ0, nZ1]
    unfold w_X16_turn_36
    try simp only [forall_eq, rII, rIJ, rIP, rJJ, rJI, rJP, rPP, rPI, rPJ, g1, g2, g3, g4, g5, g6, g7, g8, Nat.reduceEqDiff, Nat.reduceAdd, false_and, and_false, true_and, and_true, reduceIte, nZ0, nZ1]
    have q2 := rσ.2.1 34; simp only [rgS] at q2
    have L43 : ∀ (fu43 : Nat) (τ43 : Sg) (v2 : Int) (v3 : Int), Rg ra jx rm τ43 → Fr ra jx rm [20, 26, 40, 41, 42, 43, 44, 45, 46, 47, 48, 49, 54, 55, 56, 57, 58, 59, 60, 61, 62, 63, 64, 65, 68, 69, 70, 71, 72, 73, 74, 75, 76, 77, 78, 81, 82, 83, 84, 85, 86, 87, 88, 89, 97, 98, 99, 100, 101, 102, 103, 104, 105, 106, 107, 108, 109] [0, 21, 27, 31, 32, 35, 66, 67, 79, 80, 90, 91, 92, 93, 96, 110, 111, 113] σ τ43 → (0 ≤ v3 ∧ 0 ≤ v2 ∧ v2 ≤ v3 ∧ (gI τ43 rm 0 = 0 → gI σ rm 30 ≠ 0 ∧ 1 ≤ v1 ∧ v1 ≤ 5000) ∧ (gI σ rm 30 ≠ 0 → (ThE ra rm τ43 ∧ RecE ra jx rm ja τ43 ∧ HeE ra rm τ43 ∧ MkI ra jx ja τ43) ∧ LcI ra rm τ43 ∧ (∀ i : Nat, i < 1100 → gI τ43 (ra 54) i ≤ gI σ rm 34))) → ((v1 - v3).toNat) < fu43 → wl_X16_turn_43 ra jx rm Q X fu43 τ43 v1 v2 v3 := by
      intro fu43
      induction fu43 with
      | zero => intro τ43 _ _ _ _ _ h9; omega
      | succ fu43 ih43 =>
        intro τ43 v2 v3 rτ43 fτ43 hi43 hm43
        unfold wl_X16_turn_43
        have sτ43_30 := fτ43.2.1 30 (by decide)
        have sτ43_33 := fτ43.2.1 33 (by decide)
        have sτ43_34 := fτ43.2.1 34 (by decide)
        have sτ43_36 := fτ43.2.1 36 (by decide)
        have sτ43_50 := fτ43.2.1 50 (by decide)
        have jτ43 := fτ43.2.2.1
        unfold w_X16_turn_43
        try simp only [forall_eq, rII, rIJ, rIP, rJJ, rJI, rJP, rPP, rPI, rPJ, g1, g2, g3, g4, g5, g6, g7, g8, Nat.reduceEqDiff, Nat.reduceAdd, false_and, and_false, true_and, and_true, reduceIte, nZ0, nZ1, sτ43_30.1, sτ43_30.2, sτ43_33.1, sτ43_33.2, sτ43_34.1, sτ43_34.2, sτ43_36.1, sτ43_36.2, sτ43_50.1, sτ43_50.2, fun a k => (jτ43 a k).1, fun a k => (jτ43 a k).2]
        obtain ⟨k1, k2, k3, k4, k5⟩ := hi43
        split
        · rename_i hc45
          skip
          unfold w_X16_turn_82
          try simp only [forall_eq, rII, rIJ, rIP, rJJ, rJI, rJP, rPP, rPI, rPJ, g1, g2, g3, g4, g5, g6, g7, g8, Nat.reduceEqDiff, Nat.reduceAdd, false_and, and_false, true_and, and_true, reduceIte, nZ0, nZ1, sτ43_30.1, sτ43_30.2, sτ43_33.1, sτ43_33.2, sτ43_34.1, sτ43_34.2, sτ43_36.1, sτ43_36.2, sτ43_50.1, sτ43_50.2, fun a k => (jτ43 a k).1, fun a k => (jτ43 a k).2]
          refine hQ _ _ ?_ ?_ ?_
          · exact rτ43
          · exact fτ43
          · first | exact k5
        · rename_i hc45
          skip
          unfold w_X16_turn_48
          try simp only [forall_eq, rII, rIJ, rIP, rJJ, rJI, rJP, rPP, rPI, rPJ, g1, g2, g3, g4, g5, g6, g7, g8, Nat.reduceEqDiff, Nat.reduceAdd, false_and, and_false, true_and, and_true, reduceIte, nZ0, nZ1, sτ43_30.1, sτ43_30.2, sτ43_33.1, sτ43_33.2, sτ43_34.1, sτ43_34.2, sτ43_36.1, sτ43_36.2, sτ43_50.1, sτ43_50.2, fun a k => (jτ43 a k).1, fun a k => (jτ43 a k).2]
          have q3 := rτ43.2.1 0; simp only [rgS] at q3
          split
          · rename_i hc52
            skip
            unfold w_X16_turn_82
            try simp only [forall_eq, rII, rIJ, rIP, rJJ, rJI, rJP, rPP, rPI, rPJ, g1, g2, g3, g4, g5, g6, g7, g8, Nat.reduceEqDiff, Nat.reduceAdd, false_and, and_false, true_and, and_true, reduceIte, nZ0, nZ1, sτ43_30.1, sτ43_30.2, sτ43_33.1, sτ43_33.2, sτ43_34.1, sτ43_34.2, sτ43_36.1, sτ43_36.2, sτ43_50.1, sτ43_50.2, fun a k => (jτ43 a k).1, fun a k => (jτ43 a k).2]
            refine hQ _ _ ?_ ?_ ?_
            · exact rτ43
            · exact fτ43
            · first | exact k5
          · rename_i hc52
            skip
            unfold w_X16_turn_55
            try simp only [forall_eq, rII, rIJ, rIP, rJJ, rJI, rJP, rPP, rPI, rPJ, g1, g2, g3, g4, g5, g6, g7, g8, Nat.reduceEqDiff, Nat.reduceAdd, false_and, and_false, true_and, and_true, reduceIte, nZ0, nZ1, sτ43_30.1, sτ43_30.2, sτ43_33.1, sτ43_33.2, sτ43_34.1, sτ43_34.2, sτ43_36.1, sτ43_36.2, sτ43_50.1, sτ43_50.2, fun a k => (jτ43 a k).1, fun a k => (jτ43 a k).2]
            have q4 := rτ43.2.1 31; simp only [rgS] at q4
            split
            · rename_i hc59
              skip
              unfold w_X16_turn_82
              try simp only [forall_eq, rII, rIJ, rIP, rJJ, rJI, rJP, rPP, rPI, rPJ, g1, g2, g3, g4, g5, g6, g7, g8, Nat.reduceEqDiff, Nat.reduceAdd, false_and, and_false, true_and, and_true, reduceIte, nZ0, nZ1, sτ43_30.1, sτ43_30.2, sτ43_33.1, sτ43_33.2, sτ43_34.1, sτ43_34.2, sτ43_36.1, sτ43_36.2, sτ43_50.1, sτ43_50.2, fun a k => (jτ43 a k).1, fun a k => (jτ43 a k).2]
              refine hQ _ _ ?_ ?_ ?_
              · exact rτ43
              · exact fτ43
              · first | exact k5
            · rename_i hc59
              skip
              unfold w_X16_turn_62
              try simp only [forall_eq, rII, rIJ, rIP, rJJ, rJI, rJP, rPP, rPI, rPJ, g1, g2, g3, g4, g5, g6, g7, g8, Nat.reduceEqDiff, Nat.reduceAdd, false_and, and_false, true_and, and_true, reduceIte, nZ0, nZ1, sτ43_30.1, sτ43_30.2, sτ43_33.1, sτ43_33.2, sτ43_34.1, sτ43_34.2, sτ43_36.1, sτ43_36.2, sτ43_50.1, sτ43_50.2, fun a k => (jτ43 a k).1, fun a k => (jτ43 a k).2]
              have q5 := rτ43.2.1 32; simp only [rgS] at q5
              split
              · rename_i hc66
                skip
                unfold w_X16_turn_82
                try simp only [forall_eq, rII, rIJ, rIP, rJJ, rJI, rJP, rPP, rPI, rPJ, g1, g2, g3, g4, g5, g6, g7, g8, Nat.reduceEqDiff, Nat.reduceAdd, false_and, and_false, true_and, and_true, reduceIte, nZ0, nZ1, sτ43_30.1, sτ43_30.2, sτ43_33.1, sτ43_33.2, sτ43_34.1, sτ43_34.2, sτ43_36.1, sτ43_36.2, sτ43_50.1, sτ43_50.2, fun a k => (jτ43 a k).1, fun a k => (jτ43 a k).2]
                refine hQ _ _ ?_ ?_ ?_
                · exact rτ43
                · exact fτ43
                · first | exact k5
              · rename_i hc66
                skip
                unfold w_X16_turn_69
                try simp only [forall_eq, rII, rIJ, rIP, rJJ, rJI, rJP, rPP, rPI, rPJ, g1, g2, g3, g4, g5, g6, g7, g8, Nat.reduceEqDiff, Nat.reduceAdd, false_and, and_false, true_and, and_true, reduceIte, nZ0, nZ1, sτ43_30.1, sτ43_30.2, sτ43_33.1, sτ43_33.2, sτ43_34.1, sτ43_34.2, sτ43_36.1, sτ43_36.2, sτ43_50.1, sτ43_50.2, fun a k => (jτ43 a k).1, fun a k => (jτ43 a k).2]
                have k6 := k4 (by omega)
                have k7 := k5 k6.1
                have hr9 := hR k6.1
                refine s_X16_oneTurn g rτ43 (by rw [fτ43.2.2.2]; exact hr9.1) hja k7.1.2.1 k7.1.1 k7.1.2.2.1 k7.1.2.2.2 (by (try simp only [rII, rIJ, rIP, rJJ, rJI, rJP, rPP, rPI, rPJ, g1, g2, g3, g4, g5, g6, g7, g8, Nat.reduceEqDiff, Nat.reduceAdd, false_and, and_false, true_and, and_true, reduceIte, nZ0, nZ1, sτ43_30.1, sτ43_30.2, sτ43_33.1, sτ43_33.2, sτ43_34.1, sτ43_34.2, sτ43_36.1, sτ43_36.2, sτ43_50.1, sτ43_50.2, fun a k => (jτ43 a k).1, fun a k => (jτ43 a k).2]) <;> exact hr9.2.2.1) (JobOK.fr hr9.2.2.2.1 hja fτ43 (by decide)) (by (try simp only [rII, rIJ, rIP, rJJ, rJI, rJP, rPP, rPI, rPJ, g1, g2, g3, g4, g5, g6, g7, g8, Nat.reduceEqDiff, Nat.reduceAdd, false_and, and_false, true_and, and_true, reduceIte, nZ0, nZ1, sτ43_30.1, sτ43_30.2, sτ43_33.1, sτ43_33.2, sτ43_34.1, sτ43_34.2, sτ43_36.1, sτ43_36.2, sτ43_50.1, sτ43_50.2, fun a k => (jτ43 a k).1, fun a k => (jτ43 a k).2]) <;> exact hr9.2.2.2.2.1) (by intro i hi; (try simp only [rII, rIJ, rIP, rJJ, rJI, rJP, rPP, rPI, rPJ, g1, g2, g3, g4, g5, g6, g7, g8, Nat.reduceEqDiff, Nat.reduceAdd, false_and, and_false, true_and, and_true, reduceIte, nZ0, nZ1, sτ43_30.1, sτ43_30.2, sτ43_33.1, sτ43_33.2, sτ43_34.1, sτ43_34.2, sτ43_36.1, sτ43_36.2, sτ43_50.1, sτ43_50.2, fun a k => (jτ43 a k).1, fun a k => (jτ43 a k).2]) <;> exact k7.2.2 i hi) (LyI.fr hr9.2.2.2.2.2 hja fτ43 (by decide) (by decide)) k7.2.1 (fun σ12 r13 rσ12 fc p6 => ?_)
                have fσ12 : Fr ra jx rm [20, 26, 40, 41, 42, 43, 44, 45, 46, 47, 48, 49, 54, 55, 56, 57, 58, 59, 60, 61, 62, 63, 64, 65, 68, 69, 70, 71, 72, 73, 74, 75, 76, 77, 78, 81, 82, 83, 84, 85, 86, 87, 88, 89, 97, 98, 99, 100, 101, 102, 103, 104, 105, 106, 107, 108, 109] [0, 21, 27, 31, 32, 35, 66, 67, 79, 80, 90, 91, 92, 93, 96, 110, 111, 113] σ σ12 := Fr.tr fτ43 (Fr.mor (fc) (by decide) (by decide))
                have p9 := p6.1
                have p8 := p6.2
                simp only [(fτ43.2.1 34 (by decide)).1] at p9
                have q0 := (fc.2.1 0 (by decide)).1
                have sσ12_30 := fσ12.2.1 30 (by decide)
                have sσ12_33 := fσ12.2.1 33 (by decide)
                have sσ12_34 := fσ12.2.1 34 (by decide)
                have sσ12_36 := fσ12.2.1 36 (by decide)
                have sσ12_50 := fσ12.2.1 50 (by decide)
                have jσ12 := fσ12.2.2.1
                try simp only [forall_eq, rII, rIJ, rIP, rJJ, rJI, rJP, rPP, rPI, rPJ, g1, g2, g3, g4, g5, g6, g7, g8, Nat.reduceEqDiff, Nat.reduceAdd, false_and, and_false, true_and, and_true, reduceIte, nZ0, nZ1, sσ12_30.1, sσ12_30.2, sσ12_33.1, sσ12_33.2, sσ12_34.1, sσ12_34.2, sσ12_36.1, sσ12_36.2, sσ12_50.1, sσ12_50.2, fun a k => (jσ12 a k).1, fun a k => (jσ12 a k).2]
                refine ⟨by (first | omega | with_reducible assumption | (unfold rng; omega) | (unfold rng; (repeat' split) <;> omega)), ?_⟩
                refine ⟨by (first | omega | with_reducible assumption | (unfold rng; omega) | (unfold rng; (repeat' split) <;> omega)), ?_⟩
                refine ih43 _ _ _ ?_ ?_ ?_ ?_
                · exact rσ12
                · exact fσ12
                · first | exact ⟨by omega, by omega, by omega, fun _ => k6, fun _ => p9⟩ | (refine ⟨by omega, by omega, by omega, fun q => ?_, fun q => ?_⟩; (first | ((try simp only [rII, rIJ, rIP, rJJ, rJI, rJP, rPP, rPI, rPJ, g1, g2, g3, g4, g5, g6, g7, g8, Nat.reduceEqDiff, Nat.reduceAdd, false_and, and_false, true_and, and_true, reduceIte, nZ0, nZ1, sσ12_30.1, sσ12_30.2, sσ12_33.1, sσ12_33.2, sσ12_34.1, sσ12_34.2, sσ12_36.1, sσ12_36.2, sσ12_50.1, sσ12_50.2, fun a k => (jσ12 a k).1, fun a k => (jσ12 a k).2] at q) <;> omega)); (have z := (hR q).2.1; exact ⟨⟨ThE.fr (jx := jx) (K := []) (S := [0]) z.1.1 (by repeat (first | exact Fr.rf | assumption | refine Fr.aJ g ?_ (by decide) | refine Fr.aI g ?_ (by decide) | refine Fr.sI g ?_ (by decide) | refine Fr.sJ g ?_ (by decide))) (by decide) (by decide), RecE.fr (K := []) (S := [0]) z.1.2.1 (by repeat (first | exact Fr.rf | assumption | refine Fr.aJ g ?_ (by decide) | refine Fr.aI g ?_ (by decide) | refine Fr.sI g ?_ (by decide) | refine Fr.sJ g ?_ (by decide))) (by decide) (by decide), HeE.fr (jx := jx) (K := []) (S := [0]) z.1.2.2.1 (by repeat (first | exact Fr.rf | assumption | refine Fr.aJ g ?_ (by decide) | refine Fr.aI g ?_ (by decide) | refine Fr.sI g ?_ (by decide) | refine Fr.sJ g ?_ (by decide))) (by decide) (by decide), MkI.fr (rm := rm) (K := []) (S := [0]) z.1.2.2.2 (by repeat (first | exact Fr.rf | assumption | refine Fr.aJ g ?_ (by decide) | refine Fr.aI g ?_ (by decide) | refine Fr.sI g ?_ (by decide) | refine Fr.sJ g ?_ (by decide))) (by decide)⟩, LcI.fr (jx := jx) (K := []) (S := [0]) z.2.1 (by repeat (first | exact Fr.rf | assumption | refine Fr.aJ g ?_ (by decide) | refine Fr.aI g ?_ (by decide) | refine Fr.sI g ?_ (by decide) | refine Fr.sJ g ?_ (by decide))) (by decide) (by decide), fun i hi => by (try simp only [rII, rIJ, rIP, rJJ, rJI, rJP, rPP, rPI, rPJ, g1, g2, g3, g4, g5, g6, g7, g8, Nat.reduceEqDiff, Nat.reduceAdd, false_and, and_false, true_and, and_true, reduceIte, nZ0, nZ1, sσ12_30.1, sσ12_30.2, sσ12_33.1, sσ12_33.2, sσ12_34.1, sσ12_34.2, sσ12_36.1, sσ12_36.2, sσ12_50.1, sσ12_50.2, fun a k => (jσ12 a k).1, fun a k => (jσ12 a k).2]) <;> exact z.2.2 i hi⟩))
                · (try simp only [rII, rIJ, rIP, rJJ, rJI, rJP, rPP, rPI, rPJ, g1, g2, g3, g4, g5, g6, g7, g8, Nat.reduceEqDiff, Nat.reduceAdd, false_and, and_false, true_and, and_true, reduceIte, nZ0, nZ1, sσ12_30.1, sσ12_30.2, sσ12_33.1, sσ12_33.2, sσ12_34.1, sσ12_34.2, sσ12_36.1, sσ12_36.2, sσ12_50.1, sσ12_50.2, fun a k => (jσ12 a k).1, fun a k => (jσ12 a k).2]) <;> (first | omega | with_reducible assumption | (unfold rng; omega) | (unfold rng; (repeat' split) <;> omega))
    refine ⟨_, L43 _ _ _ _ ?_ ?_ ?_ (Nat.lt_succ_self _)⟩
    · refine Rg.sI g ?_ (by simp only [rgS]; first | with_reducible exact nZ_rng _ | with_reducible exact nB_rng _ | with_reducible exact wr_rng _ | with_reducible exact i32any _ | (first | omega | with_reducible assumption | (unfold rng; omega) | (unfold rng; (repeat' split) <;> omega))); exact rσ
    · refine Fr.sI g ?_ (by decide); exact fσ
    · first | exact ⟨by omega, by omega, by omega, fun _ => k6, fun _ => p9⟩ | (refine ⟨by omega, by omega, by omega, fun q => ?_, fun q => ?_⟩; (first | ((try simp only [rII, rIJ, rIP, rJJ, rJI, rJP, rPP, rPI, rPJ, g1, g2, g3, g4, g5, g6, g7, g8, Nat.reduceEqDiff, Nat.reduceAdd, false_and, and_false, true_and, and_true, reduceIte, nZ0, nZ1] at q) <;> omega)); (have z := (hR q).2.1; exact ⟨⟨ThE.fr (jx := jx) (K := []) (S := [0]) z.1.1 (by repeat (first | exact Fr.rf | assumption | refine Fr.aJ g ?_ (by decide) | refine Fr.aI g ?_ (by decide) | refine Fr.sI g ?_ (by decide) | refine Fr.sJ g ?_ (by decide))) (by decide) (by decide), RecE.fr (K := []) (S := [0]) z.1.2.1 (by repeat (first | exact Fr.rf | assumption | refine Fr.aJ g ?_ (by decide) | refine Fr.aI g ?_ (by decide) | refine Fr.sI g ?_ (by decide) | refine Fr.sJ g ?_ (by decide))) (by decide) (by decide), HeE.fr (jx := jx) (K := []) (S := [0]) z.1.2.2.1 (by repeat (first | exact Fr.rf | assumption | refine Fr.aJ g ?_ (by decide) | refine Fr.aI g ?_ (by decide) | refine Fr.sI g ?_ (by decide) | refine Fr.sJ g ?_ (by decide))) (by decide) (by decide), MkI.fr (rm := rm) (K := []) (S := [0]) z.1.2.2.2 (by repeat (first | exact Fr.rf | assumption | refine Fr.aJ g ?_ (by decide) | refine Fr.aI g ?_ (by decide) | refine Fr.sI g ?_ (by decide) | refine Fr.sJ g ?_ (by decide))) (by decide)⟩, LcI.fr (jx := jx) (K := []) (S := [0]) z.2.1 (by repeat (first | exact Fr.rf | assumption | refine Fr.aJ g ?_ (by decide) | refine Fr.aI g ?_ (by decide) | refine Fr.sI g ?_ (by decide) | refine Fr.sJ g ?_ (by decide))) (by decide) (by decide), fun i hi => by (try simp only [rII, rIJ, rIP, rJJ, rJI, rJP, rPP, rPI, rPJ, g1, g2, g3, g4, g5, g6, g7, g8, Nat.reduceEqDiff, Nat.reduceAdd, false_and, and_false, true_and, and_true, reduceIte, nZ0, nZ1]) <;> exact z.2.2 i hi⟩))
  · rename_i hc5
    skip
    unfold w_X16_turn_8
    try simp only [forall_eq, rII, rIJ, rIP, rJJ, rJI, rJP, rPP, rPI, rPJ, g1, g2, g3, g4, g5, g6, g7, g8, Nat.reduceEqDiff, Nat.reduceAdd, false_and, and_false, true_and, and_true, reduceIte, nZ0, nZ1]
    have q7 := rσ.2.1 32; simp only [rgS] at q7
    split
    · rename_i hc12
      skip
      unfold w_X16_turn_19
      try simp only [forall_eq, rII, rIJ, rIP, rJJ, rJI, rJP, rPP, rPI, rPJ, g1, g2, g3, g4, g5, g6, g7, g8, Nat.reduceEqDiff, Nat.reduceAdd, false_and, and_false, true_and, and_true, reduceIte, nZ0, nZ1]
      refine s_X16_within g rσ (fun r15 p8 => ?_)
      obtain ⟨p8, p8b⟩ := p8
      have p8w : r15 = 1 → 1 ≤ v1 ∧ v1 ≤ 5000 := fun e => win (by (first | omega | with_reducible assumption | (unfold rng; omega) | (unfold rng; (repeat' split) <;> omega))) (p8b e)
      try simp only [forall_eq, rII, rIJ, rIP, rJJ, rJI, rJP, rPP, rPI, rPJ, g1, g2, g3, g4, g5, g6, g7, g8, Nat.reduceEqDiff, Nat.reduceAdd, false_and, and_false, true_and, and_true, reduceIte, nZ0, nZ1]
      split
      · rename_i hc28
        skip
        unfold w_X16_turn_35
        try simp only [forall_eq, rII, rIJ, rIP, rJJ, rJI, rJP, rPP, rPI, rPJ, g1, g2, g3, g4, g5, g6, g7, g8, Nat.reduceEqDiff, Nat.reduceAdd, false_and, and_false, true_and, and_true, reduceIte, nZ0, nZ1]
        unfold w_X16_turn_36
        try simp only [forall_eq, rII, rIJ, rIP, rJJ, rJI, rJP, rPP, rPI, rPJ, g1, g2, g3, g4, g5, g6, g7, g8, Nat.reduceEqDiff, Nat.reduceAdd, false_and, and_false, true_and, and_true, reduceIte, nZ0, nZ1]
        have q9 := rσ.2.1 34; simp only [rgS] at q9
        have L43 : ∀ (fu43 : Nat) (τ43 : Sg) (v2 : Int) (v3 : Int), Rg ra jx rm τ43 → Fr ra jx rm [20, 26, 40, 41, 42, 43, 44, 45, 46, 47, 48, 49, 54, 55, 56, 57, 58, 59, 60, 61, 62, 63, 64, 65, 68, 69, 70, 71, 72, 73, 74, 75, 76, 77, 78, 81, 82, 83, 84, 85, 86, 87, 88, 89, 97, 98, 99, 100, 101, 102, 103, 104, 105, 106, 107, 108, 109] [0, 21, 27, 31, 32, 35, 66, 67, 79, 80, 90, 91, 92, 93, 96, 110, 111, 113] σ τ43 → (0 ≤ v3 ∧ 0 ≤ v2 ∧ v2 ≤ v3 ∧ (gI τ43 rm 0 = 0 → gI σ rm 30 ≠ 0 ∧ 1 ≤ v1 ∧ v1 ≤ 5000) ∧ (gI σ rm 30 ≠ 0 → (ThE ra rm τ43 ∧ RecE ra jx rm ja τ43 ∧ HeE ra rm τ43 ∧ MkI ra jx ja τ43) ∧ LcI ra rm τ43 ∧ (∀ i : Nat, i < 1100 → gI τ43 (ra 54) i ≤ gI σ rm 34))) → ((v1 - v3).toNat) < fu43 → wl_X16_turn_43 ra jx rm Q X fu43 τ43 v1 v2 v3 := by
          intro fu43
          induction fu43 with
          | zero => intro τ43 _ _ _ _ _ h9; omega
          | succ fu43 ih43 =>
            intro τ43 v2 v3 rτ43 fτ43 hi43 hm43
            unfold wl_X16_turn_43
            have sτ43_30 := fτ43.2.1 30 (by decide)
            have sτ43_33 := fτ43.2.1 33 (by decide)
            have sτ43_34 := fτ43.2.1 34 (by decide)
            have sτ43_36 := fτ43.2.1 36 (by decide)
            have sτ43_50 := fτ43.2.1 50 (by decide)
            have jτ43 := fτ43.2.2.1
            unfold w_X16_turn_43
            try simp only [forall_eq, rII, rIJ, rIP, rJJ, rJI, rJP, rPP, rPI, rPJ, g1, g2, g3, g4, g5, g6, g7, g8, Nat.reduceEqDiff, Nat.reduceAdd, false_and, and_false, true_and, and_true, reduceIte, nZ0, nZ1, sτ43_30.1, sτ43_30.2, sτ43_33.1, sτ43_33.2, sτ43_34.1, sτ43_34.2, sτ43_36.1, sτ43_36.2, sτ43_50.1, sτ43_50.2, fun a k => (jτ43 a k).1, fun a k => (jτ43 a k).2]
            obtain ⟨k1, k2, k3, k4, k5⟩ := hi43
            split
            · rename_i hc45
              skip
              unfold w_X16_turn_82
              try simp only [forall_eq, rII, rIJ, rIP, rJJ, rJI, rJP, rPP, rPI, rPJ, g1, g2, g3, g4, g5, g6, g7, g8, Nat.reduceEqDiff, Nat.reduceAdd, false_and, and_false, true_and, and_true, reduceIte, nZ0, nZ1, sτ43_30.1, sτ43_30.2, sτ43_33.1, sτ43_33.2, sτ43_34.1, sτ43_34.2, sτ43_36.1, sτ43_36.2, sτ43_50.1, sτ43_50.2, fun a k => (jτ43 a k).1, fun a k => (jτ43 a k).2]
              refine hQ _ _ ?_ ?_ ?_
              · exact rτ43
              · exact fτ43
              · first | exact k5
            · rename_i hc45
              skip
              unfold w_X16_turn_48
              try simp only [forall_eq, rII, rIJ, rIP, rJJ, rJI, rJP, rPP, rPI, rPJ, g1, g2, g3, g4, g5, g6, g7, g8, Nat.reduceEqDiff, Nat.reduceAdd, false_and, and_false, true_and, and_true, reduceIte, nZ0, nZ1, sτ43_30.1, sτ43_30.2, sτ43_33.1, sτ43_33.2, sτ43_34.1, sτ43_34.2, sτ43_36.1, sτ43_36.2, sτ43_50.1, sτ43_50.2, fun a k => (jτ43 a k).1, fun a k => (jτ43 a k).2]
              have q10 := rτ43.2.1 0; simp only [rgS] at q10
              split
              · rename_i hc52
                skip
                unfold w_X16_turn_82
                try simp only [forall_eq, rII, rIJ, rIP, rJJ, rJI, rJP, rPP, rPI, rPJ, g1, g2, g3, g4, g5, g6, g7, g8, Nat.reduceEqDiff, Nat.reduceAdd, false_and, and_false, true_and, and_true, reduceIte, nZ0, nZ1, sτ43_30.1, sτ43_30.2, sτ43_33.1, sτ43_33.2, sτ43_34.1, sτ43_34.2, sτ43_36.1, sτ43_36.2, sτ43_50.1, sτ43_50.2, fun a k => (jτ43 a k).1, fun a k => (jτ43 a k).2]
                refine hQ _ _ ?_ ?_ ?_
                · exact rτ43
                · exact fτ43
                · first | exact k5
              · rename_i hc52
                skip
                unfold w_X16_turn_55
                try simp only [forall_eq, rII, rIJ, rIP, rJJ, rJI, rJP, rPP, rPI, rPJ, g1, g2, g3, g4, g5, g6, g7, g8, Nat.reduceEqDiff, Nat.reduceAdd, false_and, and_false, true_and, and_true, reduceIte, nZ0, nZ1, sτ43_30.1, sτ43_30.2, sτ43_33.1, sτ43_33.2, sτ43_34.1, sτ43_34.2, sτ43_36.1, sτ43_36.2, sτ43_50.1, sτ43_50.2, fun a k => (jτ43 a k).1, fun a k => (jτ43 a k).2]
                have q11 := rτ43.2.1 31; simp only [rgS] at q11
                split
                · rename_i hc59
                  skip
                  unfold w_X16_turn_82
                  try simp only [forall_eq, rII, rIJ, rIP, rJJ, rJI, rJP, rPP, rPI, rPJ, g1, g2, g3, g4, g5, g6, g7, g8, Nat.reduceEqDiff, Nat.reduceAdd, false_and, and_false, true_and, and_true, reduceIte, nZ0, nZ1, sτ43_30.1, sτ43_30.2, sτ43_33.1, sτ43_33.2, sτ43_34.1, sτ43_34.2, sτ43_36.1, sτ43_36.2, sτ43_50.1, sτ43_50.2, fun a k => (jτ43 a k).1, fun a k => (jτ43 a k).2]
                  refine hQ _ _ ?_ ?_ ?_
                  · exact rτ43
                  · exact fτ43
                  · first | exact k5
                · rename_i hc59
                  skip
                  unfold w_X16_turn_62
                  try simp only [forall_eq, rII, rIJ, rIP, rJJ, rJI, rJP, rPP, rPI, rPJ, g1, g2, g3, g4, g5, g6, g7, g8, Nat.reduceEqDiff, Nat.reduceAdd, false_and, and_false, true_and, and_true, reduceIte, nZ0, nZ1, sτ43_30.1, sτ43_30.2, sτ43_33.1, sτ43_33.2, sτ43_34.1, sτ43_34.2, sτ43_36.1, sτ43_36.2, sτ43_50.1, sτ43_50.2, fun a k => (jτ43 a k).1, fun a k => (jτ43 a k).2]
                  have q12 := rτ43.2.1 32; simp only [rgS] at q12
                  split
                  · rename_i hc66
                    skip
                    unfold w_X16_turn_82
                    try simp only [forall_eq, rII, rIJ, rIP, rJJ, rJI, rJP, rPP, rPI, rPJ, g1, g2, g3, g4, g5, g6, g7, g8, Nat.reduceEqDiff, Nat.reduceAdd, false_and, and_false, true_and, and_true, reduceIte, nZ0, nZ1, sτ43_30.1, sτ43_30.2, sτ43_33.1, sτ43_33.2, sτ43_34.1, sτ43_34.2, sτ43_36.1, sτ43_36.2, sτ43_50.1, sτ43_50.2, fun a k => (jτ43 a k).1, fun a k => (jτ43 a k).2]
                    refine hQ _ _ ?_ ?_ ?_
                    · exact rτ43
                    · exact fτ43
                    · first | exact k5
                  · rename_i hc66
                    skip
                    unfold w_X16_turn_69
                    try simp only [forall_eq, rII, rIJ, rIP, rJJ, rJI, rJP, rPP, rPI, rPJ, g1, g2, g3, g4, g5, g6, g7, g8, Nat.reduceEqDiff, Nat.reduceAdd, false_and, and_false, true_and, and_true, reduceIte, nZ0, nZ1, sτ43_30.1, sτ43_30.2, sτ43_33.1, sτ43_33.2, sτ43_34.1, sτ43_34.2, sτ43_36.1, sτ43_36.2, sτ43_50.1, sτ43_50.2, fun a k => (jτ43 a k).1, fun a k => (jτ43 a k).2]
                    have k6 := k4 (by omega)
                    have k7 := k5 k6.1
                    have hr9 := hR k6.1
                    refine s_X16_oneTurn g rτ43 (by rw [fτ43.2.2.2]; exact hr9.1) hja k7.1.2.1 k7.1.1 k7.1.2.2.1 k7.1.2.2.2 (by (try simp only [rII, rIJ, rIP, rJJ, rJI, rJP, rPP, rPI, rPJ, g1, g2, g3, g4, g5, g6, g7, g8, Nat.reduceEqDiff, Nat.reduceAdd, false_and, and_false, true_and, and_true, reduceIte, nZ0, nZ1, sτ43_30.1, sτ43_30.2, sτ43_33.1, sτ43_33.2, sτ43_34.1, sτ43_34.2, sτ43_36.1, sτ43_36.2, sτ43_50.1, sτ43_50.2, fun a k => (jτ43 a k).1, fun a k => (jτ43 a k).2]) <;> exact hr9.2.2.1) (JobOK.fr hr9.2.2.2.1 hja fτ43 (by decide)) (by (try simp only [rII, rIJ, rIP, rJJ, rJI, rJP, rPP, rPI, rPJ, g1, g2, g3, g4, g5, g6, g7, g8, Nat.reduceEqDiff, Nat.reduceAdd, false_and, and_false, true_and, and_true, reduceIte, nZ0, nZ1, sτ43_30.1, sτ43_30.2, sτ43_33.1, sτ43_33.2, sτ43_34.1, sτ43_34.2, sτ43_36.1, sτ43_36.2, sτ43_50.1, sτ43_50.2, fun a k => (jτ43 a k).1, fun a k => (jτ43 a k).2]) <;> exact hr9.2.2.2.2.1) (by intro i hi; (try simp only [rII, rIJ, rIP, rJJ, rJI, rJP, rPP, rPI, rPJ, g1, g2, g3, g4, g5, g6, g7, g8, Nat.reduceEqDiff, Nat.reduceAdd, false_and, and_false, true_and, and_true, reduceIte, nZ0, nZ1, sτ43_30.1, sτ43_30.2, sτ43_33.1, sτ43_33.2, sτ43_34.1, sτ43_34.2, sτ43_36.1, sτ43_36.2, sτ43_50.1, sτ43_50.2, fun a k => (jτ43 a k).1, fun a k => (jτ43 a k).2]) <;> exact k7.2.2 i hi) (LyI.fr hr9.2.2.2.2.2 hja fτ43 (by decide) (by decide)) k7.2.1 (fun σ17 r18 rσ17 fc p13 => ?_)
                    have fσ17 : Fr ra jx rm [20, 26, 40, 41, 42, 43, 44, 45, 46, 47, 48, 49, 54, 55, 56, 57, 58, 59, 60, 61, 62, 63, 64, 65, 68, 69, 70, 71, 72, 73, 74, 75, 76, 77, 78, 81, 82, 83, 84, 85, 86, 87, 88, 89, 97, 98, 99, 100, 101, 102, 103, 104, 105, 106, 107, 108, 109] [0, 21, 27, 31, 32, 35, 66, 67, 79, 80, 90, 91, 92, 93, 96, 110, 111, 113] σ σ17 := Fr.tr fτ43 (Fr.mor (fc) (by decide) (by decide))
                    have p9 := p13.1
                    have p8 := p13.2
                    simp only [(fτ43.2.1 34 (by decide)).1] at p9
                    have q0 := (fc.2.1 0 (by decide)).1
                    have sσ17_30 := fσ17.2.1 30 (by decide)
                    have sσ17_33 := fσ17.2.1 33 (by decide)
                    have sσ17_34 := fσ17.2.1 34 (by decide)
                    have sσ17_36 := fσ17.2.1 36 (by decide)
                    have sσ17_50 := fσ17.2.1 50 (by decide)
                    have jσ17 := fσ17.2.2.1
                    try simp only [forall_eq, rII, rIJ, rIP, rJJ, rJI, rJP, rPP, rPI, rPJ, g1, g2, g3, g4, g5, g6, g7, g8, Nat.reduceEqDiff, Nat.reduceAdd, false_and, and_false, true_and, and_true, reduceIte, nZ0, nZ1, sσ17_30.1, sσ17_30.2, sσ17_33.1, sσ17_33.2, sσ17_34.1, sσ17_34.2, sσ17_36.1, sσ17_36.2, sσ17_50.1, sσ17_50.2, fun a k => (jσ17 a k).1, fun a k => (jσ17 a k).2]
                    refine ⟨by (first | omega | with_reducible assumption | (unfold rng; omega) | (unfold rng; (repeat' split) <;> omega)), ?_⟩
                    refine ⟨by (first | omega | with_reducible assumption | (unfold rng; omega) | (unfold rng; (repeat' split) <;> omega)), ?_⟩
                    refine ih43 _ _ _ ?_ ?_ ?_ ?_
                    · exact rσ17
                    · exact fσ17
                    · first | exact ⟨by omega, by omega, by omega, fun _ => k6, fun _ => p9⟩ | (refine ⟨by omega, by omega, by omega, fun q => ?_, fun q => ?_⟩; (first | ((try simp only [rII, rIJ, rIP, rJJ, rJI, rJP, rPP, rPI, rPJ, g1, g2, g3, g4, g5, g6, g7, g8, Nat.reduceEqDiff, Nat.reduceAdd, false_and, and_false, true_and, and_true, reduceIte, nZ0, nZ1, sσ17_30.1, sσ17_30.2, sσ17_33.1, sσ17_33.2, sσ17_34.1, sσ17_34.2, sσ17_36.1, sσ17_36.2, sσ17_50.1, sσ17_50.2, fun a k => (jσ17 a k).1, fun a k => (jσ17 a k).2] at q) <;> omega)); (have z := (hR q).2.1; exact ⟨⟨ThE.fr (jx := jx) (K := []) (S := [0]) z.1.1 (by repeat (first | exact Fr.rf | assumption | refine Fr.aJ g ?_ (by decide) | refine Fr.aI g ?_ (by decide) | refine Fr.sI g ?_ (by decide) | refine Fr.sJ g ?_ (by decide))) (by decide) (by decide), RecE.fr (K := []) (S := [0]) z.1.2.1 (by repeat (first | exact Fr.rf | assumption | refine Fr.aJ g ?_ (by decide) | refine Fr.aI g ?_ (by decide) | refine Fr.sI g ?_ (by decide) | refine Fr.sJ g ?_ (by decide))) (by decide) (by decide), HeE.fr (jx := jx) (K := []) (S := [0]) z.1.2.2.1 (by repeat (first | exact Fr.rf | assumption | refine Fr.aJ g ?_ (by decide) | refine Fr.aI g ?_ (by decide) | refine Fr.sI g ?_ (by decide) | refine Fr.sJ g ?_ (by decide))) (by decide) (by decide), MkI.fr (rm := rm) (K := []) (S := [0]) z.1.2.2.2 (by repeat (first | exact Fr.rf | assumption | refine Fr.aJ g ?_ (by decide) | refine Fr.aI g ?_ (by decide) | refine Fr.sI g ?_ (by decide) | refine Fr.sJ g ?_ (by decide))) (by decide)⟩, LcI.fr (jx := jx) (K := []) (S := [0]) z.2.1 (by repeat (first | exact Fr.rf | assumption | refine Fr.aJ g ?_ (by decide) | refine Fr.aI g ?_ (by decide) | refine Fr.sI g ?_ (by decide) | refine Fr.sJ g ?_ (by decide))) (by decide) (by decide), fun i hi => by (try simp only [rII, rIJ, rIP, rJJ, rJI, rJP, rPP, rPI, rPJ, g1, g2, g3, g4, g5, g6, g7, g8, Nat.reduceEqDiff, Nat.reduceAdd, false_and, and_false, true_and, and_true, reduceIte, nZ0, nZ1, sσ17_30.1, sσ17_30.2, sσ17_33.1, sσ17_33.2, sσ17_34.1, sσ17_34.2, sσ17_36.1, sσ17_36.2, sσ17_50.1, sσ17_50.2, fun a k => (jσ17 a k).1, fun a k => (jσ17 a k).2]) <;> exact z.2.2 i hi⟩))
                    · (try simp only [rII, rIJ, rIP, rJJ, rJI, rJP, rPP, rPI, rPJ, g1, g2, g3, g4, g5, g6, g7, g8, Nat.reduceEqDiff, Nat.reduceAdd, false_and, and_false, true_and, and_true, reduceIte, nZ0, nZ1, sσ17_30.1, sσ17_30.2, sσ17_33.1, sσ17_33.2, sσ17_34.1, sσ17_34.2, sσ17_36.1, sσ17_36.2, sσ17_50.1, sσ17_50.2, fun a k => (jσ17 a k).1, fun a k => (jσ17 a k).2]) <;> (first | omega | with_reducible assumption | (unfold rng; omega) | (unfold rng; (repeat' split) <;> omega))
        refine ⟨_, L43 _ _ _ _ ?_ ?_ ?_ (Nat.lt_succ_self _)⟩
        · refine Rg.sI g ?_ (by simp only [rgS]; first | with_reducible exact nZ_rng _ | with_reducible exact nB_rng _ | with_reducible exact wr_rng _ | with_reducible exact i32any _ | (first | omega | with_reducible assumption | (unfold rng; omega) | (unfold rng; (repeat' split) <;> omega))); exact rσ
        · refine Fr.sI g ?_ (by decide); exact fσ
        · first | exact ⟨by omega, by omega, by omega, fun _ => k6, fun _ => p9⟩ | (refine ⟨by omega, by omega, by omega, fun q => ?_, fun q => ?_⟩; (first | ((try simp only [rII, rIJ, rIP, rJJ, rJI, rJP, rPP, rPI, rPJ, g1, g2, g3, g4, g5, g6, g7, g8, Nat.reduceEqDiff, Nat.reduceAdd, false_and, and_false, true_and, and_true, reduceIte, nZ0, nZ1] at q) <;> omega)); (have z := (hR q).2.1; exact ⟨⟨ThE.fr (jx := jx) (K := []) (S := [0]) z.1.1 (by repeat (first | exact Fr.rf | assumption | refine Fr.aJ g ?_ (by decide) | refine Fr.aI g ?_ (by decide) | refine Fr.sI g ?_ (by decide) | refine Fr.sJ g ?_ (by decide))) (by decide) (by decide), RecE.fr (K := []) (S := [0]) z.1.2.1 (by repeat (first | exact Fr.rf | assumption | refine Fr.aJ g ?_ (by decide) | refine Fr.aI g ?_ (by decide) | refine Fr.sI g ?_ (by decide) | refine Fr.sJ g ?_ (by decide))) (by decide) (by decide), HeE.fr (jx := jx) (K := []) (S := [0]) z.1.2.2.1 (by repeat (first | exact Fr.rf | assumption | refine Fr.aJ g ?_ (by decide) | refine Fr.aI g ?_ (by decide) | refine Fr.sI g ?_ (by decide) | refine Fr.sJ g ?_ (by decide))) (by decide) (by decide), MkI.fr (rm := rm) (K := []) (S := [0]) z.1.2.2.2 (by repeat (first | exact Fr.rf | assumption | refine Fr.aJ g ?_ (by decide) | refine Fr.aI g ?_ (by decide) | refine Fr.sI g ?_ (by decide) | refine Fr.sJ g ?_ (by decide))) (by decide)⟩, LcI.fr (jx := jx) (K := []) (S := [0]) z.2.1 (by repeat (first | exact Fr.rf | assumption | refine Fr.aJ g ?_ (by decide) | refine Fr.aI g ?_ (by decide) | refine Fr.sI g ?_ (by decide) | refine Fr.sJ g ?_ (by decide))) (by decide) (by decide), fun i hi => by (try simp only [rII, rIJ, rIP, rJJ, rJI, rJP, rPP, rPI, rPJ, g1, g2, g3, g4, g5, g6, g7, g8, Nat.reduceEqDiff, Nat.reduceAdd, false_and, and_false, true_and, and_true, reduceIte, nZ0, nZ1]) <;> exact z.2.2 i hi⟩))
      · rename_i hc28
        skip
        unfold w_X16_turn_31
        try simp only [forall_eq, rII, rIJ, rIP, rJJ, rJI, rJP, rPP, rPI, rPJ, g1, g2, g3, g4, g5, g6, g7, g8, Nat.reduceEqDiff, Nat.reduceAdd, false_and, and_false, true_and, and_true, reduceIte, nZ0, nZ1]
        unfold w_X16_turn_36
        try simp only [forall_eq, rII, rIJ, rIP, rJJ, rJI, rJP, rPP, rPI, rPJ, g1, g2, g3, g4, g5, g6, g7, g8, Nat.reduceEqDiff, Nat.reduceAdd, false_and, and_false, true_and, and_true, reduceIte, nZ0, nZ1]
        have q14 := rσ.2.1 34; simp only [rgS] at q14
        have L43 : ∀ (fu43 : Nat) (τ43 : Sg) (v2 : Int) (v3 : Int), Rg ra jx rm τ43 → Fr ra jx rm [20, 26, 40, 41, 42, 43, 44, 45, 46, 47, 48, 49, 54, 55, 56, 57, 58, 59, 60, 61, 62, 63, 64, 65, 68, 69, 70, 71, 72, 73, 74, 75, 76, 77, 78, 81, 82, 83, 84, 85, 86, 87, 88, 89, 97, 98, 99, 100, 101, 102, 103, 104, 105, 106, 107, 108, 109] [0, 21, 27, 31, 32, 35, 66, 67, 79, 80, 90, 91, 92, 93, 96, 110, 111, 113] σ τ43 → (0 ≤ v3 ∧ 0 ≤ v2 ∧ v2 ≤ v3 ∧ (gI τ43 rm 0 = 0 → gI σ rm 30 ≠ 0 ∧ 1 ≤ v1 ∧ v1 ≤ 5000) ∧ (gI σ rm 30 ≠ 0 → (ThE ra rm τ43 ∧ RecE ra jx rm ja τ43 ∧ HeE ra rm τ43 ∧ MkI ra jx ja τ43) ∧ LcI ra rm τ43 ∧ (∀ i : Nat, i < 1100 → gI τ43 (ra 54) i ≤ gI σ rm 34))) → ((v1 - v3).toNat) < fu43 → wl_X16_turn_43 ra jx rm Q X fu43 τ43 v1 v2 v3 := by
          intro fu43
          induction fu43 with
          | zero => intro τ43 _ _ _ _ _ h9; omega
          | succ fu43 ih43 =>
            intro τ43 v2 v3 rτ43 fτ43 hi43 hm43
            unfold wl_X16_turn_43
            have sτ43_30 := fτ43.2.1 30 (by decide)
            have sτ43_33 := fτ43.2.1 33 (by decide)
            have sτ43_34 := fτ43.2.1 34 (by decide)
            have sτ43_36 := fτ43.2.1 36 (by decide)
            have sτ43_50 := fτ43.2.1 50 (by decide)
            have jτ43 := fτ43.2.2.1
            unfold w_X16_turn_43
            try simp only [forall_eq, rII, rIJ, rIP, rJJ, rJI, rJP, rPP, rPI, rPJ, g1, g2, g3, g4, g5, g6, g7, g8, Nat.reduceEqDiff, Nat.reduceAdd, false_and, and_false, true_and, and_true, reduceIte, nZ0, nZ1, sτ43_30.1, sτ43_30.2, sτ43_33.1, sτ43_33.2, sτ43_34.1, sτ43_34.2, sτ43_36.1, sτ43_36.2, sτ43_50.1, sτ43_50.2, fun a k => (jτ43 a k).1, fun a k => (jτ43 a k).2]
            obtain ⟨k1, k2, k3, k4, k5⟩ := hi43
            split
            · rename_i hc45
              skip
              unfold w_X16_turn_82
              try simp only [forall_eq, rII, rIJ, rIP, rJJ, rJI, rJP, rPP, rPI, rPJ, g1, g2, g3, g4, g5, g6, g7, g8, Nat.reduceEqDiff, Nat.reduceAdd, false_and, and_false, true_and, and_true, reduceIte, nZ0, nZ1, sτ43_30.1, sτ43_30.2, sτ43_33.1, sτ43_33.2, sτ43_34.1, sτ43_34.2, sτ43_36.1, sτ43_36.2, sτ43_50.1, sτ43_50.2, fun a k => (jτ43 a k).1, fun a k => (jτ43 a k).2]
              refine hQ _ _ ?_ ?_ ?_
              · exact rτ43
              · exact fτ43
              · first | exact k5
            · rename_i hc45
              skip
              unfold w_X16_turn_48
              try simp only [forall_eq, rII, rIJ, rIP, rJJ, rJI, rJP, rPP, rPI, rPJ, g1, g2, g3, g4, g5, g6, g7, g8, Nat.reduceEqDiff, Nat.reduceAdd, false_and, and_false, true_and, and_true, reduceIte, nZ0, nZ1, sτ43_30.1, sτ43_30.2, sτ43_33.1, sτ43_33.2, sτ43_34.1, sτ43_34.2, sτ43_36.1, sτ43_36.2, sτ43_50.1, sτ43_50.2, fun a k => (jτ43 a k).1, fun a k => (jτ43 a k).2]
              have q15 := rτ43.2.1 0; simp only [rgS] at q15
              split
              · rename_i hc52
                skip
                unfold w_X16_turn_82
                try simp only [forall_eq, rII, rIJ, rIP, rJJ, rJI, rJP, rPP, rPI, rPJ, g1, g2, g3, g4, g5, g6, g7, g8, Nat.reduceEqDiff, Nat.reduceAdd, false_and, and_false, true_and, and_true, reduceIte, nZ0, nZ1, sτ43_30.1, sτ43_30.2, sτ43_33.1, sτ43_33.2, sτ43_34.1, sτ43_34.2, sτ43_36.1, sτ43_36.2, sτ43_50.1, sτ43_50.2, fun a k => (jτ43 a k).1, fun a k => (jτ43 a k).2]
                refine hQ _ _ ?_ ?_ ?_
                · exact rτ43
                · exact fτ43
                · first | exact k5
              · rename_i hc52
                skip
                unfold w_X16_turn_55
                try simp only [forall_eq, rII, rIJ, rIP, rJJ, rJI, rJP, rPP, rPI, rPJ, g1, g2, g3, g4, g5, g6, g7, g8, Nat.reduceEqDiff, Nat.reduceAdd, false_and, and_false, true_and, and_true, reduceIte, nZ0, nZ1, sτ43_30.1, sτ43_30.2, sτ43_33.1, sτ43_33.2, sτ43_34.1, sτ43_34.2, sτ43_36.1, sτ43_36.2, sτ43_50.1, sτ43_50.2, fun a k => (jτ43 a k).1, fun a k => (jτ43 a k).2]
                have q16 := rτ43.2.1 31; simp only [rgS] at q16
                split
                · rename_i hc59
                  skip
                  unfold w_X16_turn_82
                  try simp only [forall_eq, rII, rIJ, rIP, rJJ, rJI, rJP, rPP, rPI, rPJ, g1, g2, g3, g4, g5, g6, g7, g8, Nat.reduceEqDiff, Nat.reduceAdd, false_and, and_false, true_and, and_true, reduceIte, nZ0, nZ1, sτ43_30.1, sτ43_30.2, sτ43_33.1, sτ43_33.2, sτ43_34.1, sτ43_34.2, sτ43_36.1, sτ43_36.2, sτ43_50.1, sτ43_50.2, fun a k => (jτ43 a k).1, fun a k => (jτ43 a k).2]
                  refine hQ _ _ ?_ ?_ ?_
                  · exact rτ43
                  · exact fτ43
                  · first | exact k5
                · rename_i hc59
                  skip
                  unfold w_X16_turn_62
                  try simp only [forall_eq, rII, rIJ, rIP, rJJ, rJI, rJP, rPP, rPI, rPJ, g1, g2, g3, g4, g5, g6, g7, g8, Nat.reduceEqDiff, Nat.reduceAdd, false_and, and_false, true_and, and_true, reduceIte, nZ0, nZ1, sτ43_30.1, sτ43_30.2, sτ43_33.1, sτ43_33.2, sτ43_34.1, sτ43_34.2, sτ43_36.1, sτ43_36.2, sτ43_50.1, sτ43_50.2, fun a k => (jτ43 a k).1, fun a k => (jτ43 a k).2]
                  have q17 := rτ43.2.1 32; simp only [rgS] at q17
                  split
                  · rename_i hc66
                    skip
                    unfold w_X16_turn_82
                    try simp only [forall_eq, rII, rIJ, rIP, rJJ, rJI, rJP, rPP, rPI, rPJ, g1, g2, g3, g4, g5, g6, g7, g8, Nat.reduceEqDiff, Nat.reduceAdd, false_and, and_false, true_and, and_true, reduceIte, nZ0, nZ1, sτ43_30.1, sτ43_30.2, sτ43_33.1, sτ43_33.2, sτ43_34.1, sτ43_34.2, sτ43_36.1, sτ43_36.2, sτ43_50.1, sτ43_50.2, fun a k => (jτ43 a k).1, fun a k => (jτ43 a k).2]
                    refine hQ _ _ ?_ ?_ ?_
                    · exact rτ43
                    · exact fτ43
                    · first | exact k5
                  · rename_i hc66
                    skip
                    unfold w_X16_turn_69
                    try simp only [forall_eq, rII, rIJ, rIP, rJJ, rJI, rJP, rPP, rPI, rPJ, g1, g2, g3, g4, g5, g6, g7, g8, Nat.reduceEqDiff, Nat.reduceAdd, false_and, and_false, true_and, and_true, reduceIte, nZ0, nZ1, sτ43_30.1, sτ43_30.2, sτ43_33.1, sτ43_33.2, sτ43_34.1, sτ43_34.2, sτ43_36.1, sτ43_36.2, sτ43_50.1, sτ43_50.2, fun a k => (jτ43 a k).1, fun a k => (jτ43 a k).2]
                    have k6 := k4 (by omega)
                    have k7 := k5 k6.1
                    have hr9 := hR k6.1
                    refine s_X16_oneTurn g rτ43 (by rw [fτ43.2.2.2]; exact hr9.1) hja k7.1.2.1 k7.1.1 k7.1.2.2.1 k7.1.2.2.2 (by (try simp only [rII, rIJ, rIP, rJJ, rJI, rJP, rPP, rPI, rPJ, g1, g2, g3, g4, g5, g6, g7, g8, Nat.reduceEqDiff, Nat.reduceAdd, false_and, and_false, true_and, and_true, reduceIte, nZ0, nZ1, sτ43_30.1, sτ43_30.2, sτ43_33.1, sτ43_33.2, sτ43_34.1, sτ43_34.2, sτ43_36.1, sτ43_36.2, sτ43_50.1, sτ43_50.2, fun a k => (jτ43 a k).1, fun a k => (jτ43 a k).2]) <;> exact hr9.2.2.1) (JobOK.fr hr9.2.2.2.1 hja fτ43 (by decide)) (by (try simp only [rII, rIJ, rIP, rJJ, rJI, rJP, rPP, rPI, rPJ, g1, g2, g3, g4, g5, g6, g7, g8, Nat.reduceEqDiff, Nat.reduceAdd, false_and, and_false, true_and, and_true, reduceIte, nZ0, nZ1, sτ43_30.1, sτ43_30.2, sτ43_33.1, sτ43_33.2, sτ43_34.1, sτ43_34.2, sτ43_36.1, sτ43_36.2, sτ43_50.1, sτ43_50.2, fun a k => (jτ43 a k).1, fun a k => (jτ43 a k).2]) <;> exact hr9.2.2.2.2.1) (by intro i hi; (try simp only [rII, rIJ, rIP, rJJ, rJI, rJP, rPP, rPI, rPJ, g1, g2, g3, g4, g5, g6, g7, g8, Nat.reduceEqDiff, Nat.reduceAdd, false_and, and_false, true_and, and_true, reduceIte, nZ0, nZ1, sτ43_30.1, sτ43_30.2, sτ43_33.1, sτ43_33.2, sτ43_34.1, sτ43_34.2, sτ43_36.1, sτ43_36.2, sτ43_50.1, sτ43_50.2, fun a k => (jτ43 a k).1, fun a k => (jτ43 a k).2]) <;> exact k7.2.2 i hi) (LyI.fr hr9.2.2.2.2.2 hja fτ43 (by decide) (by decide)) k7.2.1 (fun σ20 r21 rσ20 fc p18 => ?_)
                    have fσ20 : Fr ra jx rm [20, 26, 40, 41, 42, 43, 44, 45, 46, 47, 48, 49, 54, 55, 56, 57, 58, 59, 60, 61, 62, 63, 64, 65, 68, 69, 70, 71, 72, 73, 74, 75, 76, 77, 78, 81, 82, 83, 84, 85, 86, 87, 88, 89, 97, 98, 99, 100, 101, 102, 103, 104, 105, 106, 107, 108, 109] [0, 21, 27, 31, 32, 35, 66, 67, 79, 80, 90, 91, 92, 93, 96, 110, 111, 113] σ σ20 := Fr.tr fτ43 (Fr.mor (fc) (by decide) (by decide))
                    have p9 := p18.1
                    have p8 := p18.2
                    simp only [(fτ43.2.1 34 (by decide)).1] at p9
                    have q0 := (fc.2.1 0 (by decide)).1
                    have sσ20_30 := fσ20.2.1 30 (by decide)
                    have sσ20_33 := fσ20.2.1 33 (by decide)
                    have sσ20_34 := fσ20.2.1 34 (by decide)
                    have sσ20_36 := fσ20.2.1 36 (by decide)
                    have sσ20_50 := fσ20.2.1 50 (by decide)
                    have jσ20 := fσ20.2.2.1
                    try simp only [forall_eq, rII, rIJ, rIP, rJJ, rJI, rJP, rPP, rPI, rPJ, g1, g2, g3, g4, g5, g6, g7, g8, Nat.reduceEqDiff, Nat.reduceAdd, false_and, and_false, true_and, and_true, reduceIte, nZ0, nZ1, sσ20_30.1, sσ20_30.2, sσ20_33.1, sσ20_33.2, sσ20_34.1, sσ20_34.2, sσ20_36.1, sσ20_36.2, sσ20_50.1, sσ20_50.2, fun a k => (jσ20 a k).1, fun a k => (jσ20 a k).2]
                    refine ⟨by (first | omega | with_reducible assumption | (unfold rng; omega) | (unfold rng; (repeat' split) <;> omega)), ?_⟩
                    refine ⟨by (first | omega | with_reducible assumption | (unfold rng; omega) | (unfold rng; (repeat' split) <;> omega)), ?_⟩
                    refine ih43 _ _ _ ?_ ?_ ?_ ?_
                    · exact rσ20
                    · exact fσ20
                    · first | exact ⟨by omega, by omega, by omega, fun _ => k6, fun _ => p9⟩ | (refine ⟨by omega, by omega, by omega, fun q => ?_, fun q => ?_⟩; (first | ((try simp only [rII, rIJ, rIP, rJJ, rJI, rJP, rPP, rPI, rPJ, g1, g2, g3, g4, g5, g6, g7, g8, Nat.reduceEqDiff, Nat.reduceAdd, false_and, and_false, true_and, and_true, reduceIte, nZ0, nZ1, sσ20_30.1, sσ20_30.2, sσ20_33.1, sσ20_33.2, sσ20_34.1, sσ20_34.2, sσ20_36.1, sσ20_36.2, sσ20_50.1, sσ20_50.2, fun a k => (jσ20 a k).1, fun a k => (jσ20 a k).2] at q) <;> omega)); (have z := (hR q).2.1; exact ⟨⟨ThE.fr (jx := jx) (K := []) (S := [0]) z.1.1 (by repeat (first | exact Fr.rf | assumption | refine Fr.aJ g ?_ (by decide) | refine Fr.aI g ?_ (by decide) | refine Fr.sI g ?_ (by decide) | refine Fr.sJ g ?_ (by decide))) (by decide) (by decide), RecE.fr (K := []) (S := [0]) z.1.2.1 (by repeat (first | exact Fr.rf | assumption | refine Fr.aJ g ?_ (by decide) | refine Fr.aI g ?_ (by decide) | refine Fr.sI g ?_ (by decide) | refine Fr.sJ g ?_ (by decide))) (by decide) (by decide), HeE.fr (jx := jx) (K := []) (S := [0]) z.1.2.2.1 (by repeat (first | exact Fr.rf | assumption | refine Fr.aJ g ?_ (by decide) | refine Fr.aI g ?_ (by decide) | refine Fr.sI g ?_ (by decide) | refine Fr.sJ g ?_ (by decide))) (by decide) (by decide), MkI.fr (rm := rm) (K := []) (S := [0]) z.1.2.2.2 (by repeat (first | exact Fr.rf | assumption | refine Fr.aJ g ?_ (by decide) | refine Fr.aI g ?_ (by decide) | refine Fr.sI g ?_ (by decide) | refine Fr.sJ g ?_ (by decide))) (by decide)⟩, LcI.fr (jx := jx) (K := []) (S := [0]) z.2.1 (by repeat (first | exact Fr.rf | assumption | refine Fr.aJ g ?_ (by decide) | refine Fr.aI g ?_ (by decide) | refine Fr.sI g ?_ (by decide) | refine Fr.sJ g ?_ (by decide))) (by decide) (by decide), fun i hi => by (try simp only [rII, rIJ, rIP, rJJ, rJI, rJP, rPP, rPI, rPJ, g1, g2, g3, g4, g5, g6, g7, g8, Nat.reduceEqDiff, Nat.reduceAdd, false_and, and_false, true_and, and_true, reduceIte, nZ0, nZ1, sσ20_30.1, sσ20_30.2, sσ20_33.1, sσ20_33.2, sσ20_34.1, sσ20_34.2, sσ20_36.1, sσ20_36.2, sσ20_50.1, sσ20_50.2, fun a k => (jσ20 a k).1, fun a k => (jσ20 a k).2]) <;> exact z.2.2 i hi⟩))
                    · (try simp only [rII, rIJ, rIP, rJJ, rJI, rJP, rPP, rPI, rPJ, g1, g2, g3, g4, g5, g6, g7, g8, Nat.reduceEqDiff, Nat.reduceAdd, false_and, and_false, true_and, and_true, reduceIte, nZ0, nZ1, sσ20_30.1, sσ20_30.2, sσ20_33.1, sσ20_33.2, sσ20_34.1, sσ20_34.2, sσ20_36.1, sσ20_36.2, sσ20_50.1, sσ20_50.2, fun a k => (jσ20 a k).1, fun a k => (jσ20 a k).2]) <;> (first | omega | with_reducible assumption | (unfold rng; omega) | (unfold rng; (repeat' split) <;> omega))
        refine ⟨_, L43 _ _ _ _ ?_ ?_ ?_ (Nat.lt_succ_self _)⟩
        · refine Rg.sI g ?_ (by simp only [rgS]; first | with_reducible exact nZ_rng _ | with_reducible exact nB_rng _ | with_reducible exact wr_rng _ | with_reducible exact i32any _ | (first | omega | with_reducible assumption | (unfold rng; omega) | (unfold rng; (repeat' split) <;> omega))); exact rσ
        · refine Fr.sI g ?_ (by decide); exact fσ
        · first | exact ⟨by omega, by omega, by omega, fun _ => k6, fun _ => p9⟩ | (refine ⟨by omega, by omega, by omega, fun q => ?_, fun q => ?_⟩; (first | ((try simp only [rII, rIJ, rIP, rJJ, rJI, rJP, rPP, rPI, rPJ, g1, g2, g3, g4, g5, g6, g7, g8, Nat.reduceEqDiff, Nat.reduceAdd, false_and, and_false, true_and, and_true, reduceIte, nZ0, nZ1] at q) <;> omega)); (have z := (hR q).2.1; exact ⟨⟨ThE.fr (jx := jx) (K := []) (S := [0]) z.1.1 (by repeat (first | exact Fr.rf | assumption | refine Fr.aJ g ?_ (by decide) | refine Fr.aI g ?_ (by decide) | refine Fr.sI g ?_ (by decide) | refine Fr.sJ g ?_ (by decide))) (by decide) (by decide), RecE.fr (K := []) (S := [0]) z.1.2.1 (by repeat (first | exact Fr.rf | assumption | refine Fr.aJ g ?_ (by decide) | refine Fr.aI g ?_ (by decide) | refine Fr.sI g ?_ (by decide) | refine Fr.sJ g ?_ (by decide))) (by decide) (by decide), HeE.fr (jx := jx) (K := []) (S := [0]) z.1.2.2.1 (by repeat (first | exact Fr.rf | assumption | refine Fr.aJ g ?_ (by decide) | refine Fr.aI g ?_ (by decide) | refine Fr.sI g ?_ (by decide) | refine Fr.sJ g ?_ (by decide))) (by decide) (by decide), MkI.fr (rm := rm) (K := []) (S := [0]) z.1.2.2.2 (by repeat (first | exact Fr.rf | assumption | refine Fr.aJ g ?_ (by decide) | refine Fr.aI g ?_ (by decide) | refine Fr.sI g ?_ (by decide) | refine Fr.sJ g ?_ (by decide))) (by decide)⟩, LcI.fr (jx := jx) (K := []) (S := [0]) z.2.1 (by repeat (first | exact Fr.rf | assumption | refine Fr.aJ g ?_ (by decide) | refine Fr.aI g ?_ (by decide) | refine Fr.sI g ?_ (by decide) | refine Fr.sJ g ?_ (by decide))) (by decide) (by decide), fun i hi => by (try simp only [rII, rIJ, rIP, rJJ, rJI, rJP, rPP, rPI, rPJ, g1, g2, g3, g4, g5, g6, g7, g8, Nat.reduceEqDiff, Nat.reduceAdd, false_and, and_false, true_and, and_true, reduceIte, nZ0, nZ1]) <;> exact z.2.2 i hi⟩))
    · rename_i hc12
      skip
      unfold w_X16_turn_15
      try simp only [forall_eq, rII, rIJ, rIP, rJJ, rJI, rJP, rPP, rPI, rPJ, g1, g2, g3, g4, g5, g6, g7, g8, Nat.reduceEqDiff, Nat.reduceAdd, false_and, and_false, true_and, and_true, reduceIte, nZ0, nZ1]
      unfold w_X16_turn_36
      try simp only [forall_eq, rII, rIJ, rIP, rJJ, rJI, rJP, rPP, rPI, rPJ, g1, g2, g3, g4, g5, g6, g7, g8, Nat.reduceEqDiff, Nat.reduceAdd, false_and, and_false, true_and, and_true, reduceIte, nZ0, nZ1]
      have q19 := rσ.2.1 34; simp only [rgS] at q19
      have L43 : ∀ (fu43 : Nat) (τ43 : Sg) (v2 : Int) (v3 : Int), Rg ra jx rm τ43 → Fr ra jx rm [20, 26, 40, 41, 42, 43, 44, 45, 46, 47, 48, 49, 54, 55, 56, 57, 58, 59, 60, 61, 62, 63, 64, 65, 68, 69, 70, 71, 72, 73, 74, 75, 76, 77, 78, 81, 82, 83, 84, 85, 86, 87, 88, 89, 97, 98, 99, 100, 101, 102, 103, 104, 105, 106, 107, 108, 109] [0, 21, 27, 31, 32, 35, 66, 67, 79, 80, 90, 91, 92, 93, 96, 110, 111, 113] σ τ43 → (0 ≤ v3 ∧ 0 ≤ v2 ∧ v2 ≤ v3 ∧ (gI τ43 rm 0 = 0 → gI σ rm 30 ≠ 0 ∧ 1 ≤ v1 ∧ v1 ≤ 5000) ∧ (gI σ rm 30 ≠ 0 → (ThE ra rm τ43 ∧ RecE ra jx rm ja τ43 ∧ HeE ra rm τ43 ∧ MkI ra jx ja τ43) ∧ LcI ra rm τ43 ∧ (∀ i : Nat, i < 1100 → gI τ43 (ra 54) i ≤ gI σ rm 34))) → ((v1 - v3).toNat) < fu43 → wl_X16_turn_43 ra jx rm Q X fu43 τ43 v1 v2 v3 := by
        intro fu43
        induction fu43 with
        | zero => intro τ43 _ _ _ _ _ h9; omega
        | succ fu43 ih43 =>
          intro τ43 v2 v3 rτ43 fτ43 hi43 hm43
          unfold wl_X16_turn_43
          have sτ43_30 := fτ43.2.1 30 (by decide)
          have sτ43_33 := fτ43.2.1 33 (by decide)
          have sτ43_34 := fτ43.2.1 34 (by decide)
          have sτ43_36 := fτ43.2.1 36 (by decide)
          have sτ43_50 := fτ43.2.1 50 (by decide)
          have jτ43 := fτ43.2.2.1
          unfold w_X16_turn_43
          try simp only [forall_eq, rII, rIJ, rIP, rJJ, rJI, rJP, rPP, rPI, rPJ, g1, g2, g3, g4, g5, g6, g7, g8, Nat.reduceEqDiff, Nat.reduceAdd, false_and, and_false, true_and, and_true, reduceIte, nZ0, nZ1, sτ43_30.1, sτ43_30.2, sτ43_33.1, sτ43_33.2, sτ43_34.1, sτ43_34.2, sτ43_36.1, sτ43_36.2, sτ43_50.1, sτ43_50.2, fun a k => (jτ43 a k).1, fun a k => (jτ43 a k).2]
          obtain ⟨k1, k2, k3, k4, k5⟩ := hi43
          split
          · rename_i hc45
            skip
            unfold w_X16_turn_82
            try simp only [forall_eq, rII, rIJ, rIP, rJJ, rJI, rJP, rPP, rPI, rPJ, g1, g2, g3, g4, g5, g6, g7, g8, Nat.reduceEqDiff, Nat.reduceAdd, false_and, and_false, true_and, and_true, reduceIte, nZ0, nZ1, sτ43_30.1, sτ43_30.2, sτ43_33.1, sτ43_33.2, sτ43_34.1, sτ43_34.2, sτ43_36.1, sτ43_36.2, sτ43_50.1, sτ43_50.2, fun a k => (jτ43 a k).1, fun a k => (jτ43 a k).2]
            refine hQ _ _ ?_ ?_ ?_
            · exact rτ43
            · exact fτ43
            · first | exact k5
          · rename_i hc45
            skip
            unfold w_X16_turn_48
            try simp only [forall_eq, rII, rIJ, rIP, rJJ, rJI, rJP, rPP, rPI, rPJ, g1, g2, g3, g4, g5, g6, g7, g8, Nat.reduceEqDiff, Nat.reduceAdd, false_and, and_false, true_and, and_true, reduceIte, nZ0, nZ1, sτ43_30.1, sτ43_30.2, sτ43_33.1, sτ43_33.2, sτ43_34.1, sτ43_34.2, sτ43_36.1, sτ43_36.2, sτ43_50.1, sτ43_50.2, fun a k => (jτ43 a k).1, fun a k => (jτ43 a k).2]
            have q20 := rτ43.2.1 0; simp only [rgS] at q20
            split
            · rename_i hc52
              skip
              unfold w_X16_turn_82
              try simp only [forall_eq, rII, rIJ, rIP, rJJ, rJI, rJP, rPP, rPI, rPJ, g1, g2, g3, g4, g5, g6, g7, g8, Nat.reduceEqDiff, Nat.reduceAdd, false_and, and_false, true_and, and_true, reduceIte, nZ0, nZ1, sτ43_30.1, sτ43_30.2, sτ43_33.1, sτ43_33.2, sτ43_34.1, sτ43_34.2, sτ43_36.1, sτ43_36.2, sτ43_50.1, sτ43_50.2, fun a k => (jτ43 a k).1, fun a k => (jτ43 a k).2]
              refine hQ _ _ ?_ ?_ ?_
              · exact rτ43
              · exact fτ43
              · first | exact k5
            · rename_i hc52
              skip
              unfold w_X16_turn_55
              try simp only [forall_eq, rII, rIJ, rIP, rJJ, rJI, rJP, rPP, rPI, rPJ, g1, g2, g3, g4, g5, g6, g7, g8, Nat.reduceEqDiff, Nat.reduceAdd, false_and, and_false, true_and, and_true, reduceIte, nZ0, nZ1, sτ43_30.1, sτ43_30.2, sτ43_33.1, sτ43_33.2, sτ43_34.1, sτ43_34.2, sτ43_36.1, sτ43_36.2, sτ43_50.1, sτ43_50.2, fun a k => (jτ43 a k).1, fun a k => (jτ43 a k).2]
              have q21 := rτ43.2.1 31; simp only [rgS] at q21
              split
              · rename_i hc59
                skip
                unfold w_X16_turn_82
                try simp only [forall_eq, rII, rIJ, rIP, rJJ, rJI, rJP, rPP, rPI, rPJ, g1, g2, g3, g4, g5, g6, g7, g8, Nat.reduceEqDiff, Nat.reduceAdd, false_and, and_false, true_and, and_true, reduceIte, nZ0, nZ1, sτ43_30.1, sτ43_30.2, sτ43_33.1, sτ43_33.2, sτ43_34.1, sτ43_34.2, sτ43_36.1, sτ43_36.2, sτ43_50.1, sτ43_50.2, fun a k => (jτ43 a k).1, fun a k => (jτ43 a k).2]
                refine hQ _ _ ?_ ?_ ?_
                · exact rτ43
                · exact fτ43
                · first | exact k5
              · rename_i hc59
                skip
                unfold w_X16_turn_62
                try simp only [forall_eq, rII, rIJ, rIP, rJJ, rJI, rJP, rPP, rPI, rPJ, g1, g2, g3, g4, g5, g6, g7, g8, Nat.reduceEqDiff, Nat.reduceAdd, false_and, and_false, true_and, and_true, reduceIte, nZ0, nZ1, sτ43_30.1, sτ43_30.2, sτ43_33.1, sτ43_33.2, sτ43_34.1, sτ43_34.2, sτ43_36.1, sτ43_36.2, sτ43_50.1, sτ43_50.2, fun a k => (jτ43 a k).1, fun a k => (jτ43 a k).2]
                have q22 := rτ43.2.1 32; simp only [rgS] at q22
                split
                · rename_i hc66
                  skip
                  unfold w_X16_turn_82
                  try simp only [forall_eq, rII, rIJ, rIP, rJJ, rJI, rJP, rPP, rPI, rPJ, g1, g2, g3, g4, g5, g6, g7, g8, Nat.reduceEqDiff, Nat.reduceAdd, false_and, and_false, true_and, and_true, reduceIte, nZ0, nZ1, sτ43_30.1, sτ43_30.2, sτ43_33.1, sτ43_33.2, sτ43_34.1, sτ43_34.2, sτ43_36.1, sτ43_36.2, sτ43_50.1, sτ43_50.2, fun a k => (jτ43 a k).1, fun a k => (jτ43 a k).2]
                  refine hQ _ _ ?_ ?_ ?_
                  · exact rτ43
                  · exact fτ43
                  · first | exact k5
                · rename_i hc66
                  skip
                  unfold w_X16_turn_69
                  try simp only [forall_eq, rII, rIJ, rIP, rJJ, rJI, rJP, rPP, rPI, rPJ, g1, g2, g3, g4, g5, g6, g7, g8, Nat.reduceEqDiff, Nat.reduceAdd, false_and, and_false, true_and, and_true, reduceIte, nZ0, nZ1, sτ43_30.1, sτ43_30.2, sτ43_33.1, sτ43_33.2, sτ43_34.1, sτ43_34.2, sτ43_36.1, sτ43_36.2, sτ43_50.1, sτ43_50.2, fun a k => (jτ43 a k).1, fun a k => (jτ43 a k).2]
                  have k6 := k4 (by omega)
                  have k7 := k5 k6.1
                  have hr9 := hR k6.1
                  refine s_X16_oneTurn g rτ43 (by rw [fτ43.2.2.2]; exact hr9.1) hja k7.1.2.1 k7.1.1 k7.1.2.2.1 k7.1.2.2.2 (by (try simp only [rII, rIJ, rIP, rJJ, rJI, rJP, rPP, rPI, rPJ, g1, g2, g3, g4, g5, g6, g7, g8, Nat.reduceEqDiff, Nat.reduceAdd, false_and, and_false, true_and, and_true, reduceIte, nZ0, nZ1, sτ43_30.1, sτ43_30.2, sτ43_33.1, sτ43_33.2, sτ43_34.1, sτ43_34.2, sτ43_36.1, sτ43_36.2, sτ43_50.1, sτ43_50.2, fun a k => (jτ43 a k).1, fun a k => (jτ43 a k).2]) <;> exact hr9.2.2.1) (JobOK.fr hr9.2.2.2.1 hja fτ43 (by decide)) (by (try simp only [rII, rIJ, rIP, rJJ, rJI, rJP, rPP, rPI, rPJ, g1, g2, g3, g4, g5, g6, g7, g8, Nat.reduceEqDiff, Nat.reduceAdd, false_and, and_false, true_and, and_true, reduceIte, nZ0, nZ1, sτ43_30.1, sτ43_30.2, sτ43_33.1, sτ43_33.2, sτ43_34.1, sτ43_34.2, sτ43_36.1, sτ43_36.2, sτ43_50.1, sτ43_50.2, fun a k => (jτ43 a k).1, fun a k => (jτ43 a k).2]) <;> exact hr9.2.2.2.2.1) (by intro i hi; (try simp only [rII, rIJ, rIP, rJJ, rJI, rJP, rPP, rPI, rPJ, g1, g2, g3, g4, g5, g6, g7, g8, Nat.reduceEqDiff, Nat.reduceAdd, false_and, and_false, true_and, and_true, reduceIte, nZ0, nZ1, sτ43_30.1, sτ43_30.2, sτ43_33.1, sτ43_33.2, sτ43_34.1, sτ43_34.2, sτ43_36.1, sτ43_36.2, sτ43_50.1, sτ43_50.2, fun a k => (jτ43 a k).1, fun a k => (jτ43 a k).2]) <;> exact k7.2.2 i hi) (LyI.fr hr9.2.2.2.2.2 hja fτ43 (by decide) (by decide)) k7.2.1 (fun σ23 r24 rσ23 fc p23 => ?_)
                  have fσ23 : Fr ra jx rm [20, 26, 40, 41, 42, 43, 44, 45, 46, 47, 48, 49, 54, 55, 56, 57, 58, 59, 60, 61, 62, 63, 64, 65, 68, 69, 70, 71, 72, 73, 74, 75, 76, 77, 78, 81, 82, 83, 84, 85, 86, 87, 88, 89, 97, 98, 99, 100, 101, 102, 103, 104, 105, 106, 107, 108, 109] [0, 21, 27, 31, 32, 35, 66, 67, 79, 80, 90, 91, 92, 93, 96, 110, 111, 113] σ σ23 := Fr.tr fτ43 (Fr.mor (fc) (by decide) (by decide))
                  have p9 := p23.1
                  have p8 := p23.2
                  simp only [(fτ43.2.1 34 (by decide)).1] at p9
                  have q0 := (fc.2.1 0 (by decide)).1
                  have sσ23_30 := fσ23.2.1 30 (by decide)
                  have sσ23_33 := fσ23.2.1 33 (by decide)
                  have sσ23_34 := fσ23.2.1 34 (by decide)
                  have sσ23_36 := fσ23.2.1 36 (by decide)
                  have sσ23_50 := fσ23.2.1 50 (by decide)
                  have jσ23 := fσ23.2.2.1
                  try simp only [forall_eq, rII, rIJ, rIP, rJJ, rJI, rJP, rPP, rPI, rPJ, g1, g2, g3, g4, g5, g6, g7, g8, Nat.reduceEqDiff, Nat.reduceAdd, false_and, and_false, true_and, and_true, reduceIte, nZ0, nZ1, sσ23_30.1, sσ23_30.2, sσ23_33.1, sσ23_33.2, sσ23_34.1, sσ23_34.2, sσ23_36.1, sσ23_36.2, sσ23_50.1, sσ23_50.2, fun a k => (jσ23 a k).1, fun a k => (jσ23 a k).2]
                  refine ⟨by (first | omega | with_reducible assumption | (unfold rng; omega) | (unfold rng; (repeat' split) <;> omega)), ?_⟩
                  refine ⟨by (first | omega | with_reducible assumption | (unfold rng; omega) | (unfold rng; (repeat' split) <;> omega)), ?_⟩
                  refine ih43 _ _ _ ?_ ?_ ?_ ?_
                  · exact rσ23
                  · exact fσ23
                  · first | exact ⟨by omega, by omega, by omega, fun _ => k6, fun _ => p9⟩ | (refine ⟨by omega, by omega, by omega, fun q => ?_, fun q => ?_⟩; (first | ((try simp only [rII, rIJ, rIP, rJJ, rJI, rJP, rPP, rPI, rPJ, g1, g2, g3, g4, g5, g6, g7, g8, Nat.reduceEqDiff, Nat.reduceAdd, false_and, and_false, true_and, and_true, reduceIte, nZ0, nZ1, sσ23_30.1, sσ23_30.2, sσ23_33.1, sσ23_33.2, sσ23_34.1, sσ23_34.2, sσ23_36.1, sσ23_36.2, sσ23_50.1, sσ23_50.2, fun a k => (jσ23 a k).1, fun a k => (jσ23 a k).2] at q) <;> omega)); (have z := (hR q).2.1; exact ⟨⟨ThE.fr (jx := jx) (K := []) (S := [0]) z.1.1 (by repeat (first | exact Fr.rf | assumption | refine Fr.aJ g ?_ (by decide) | refine Fr.aI g ?_ (by decide) | refine Fr.sI g ?_ (by decide) | refine Fr.sJ g ?_ (by decide))) (by decide) (by decide), RecE.fr (K := []) (S := [0]) z.1.2.1 (by repeat (first | exact Fr.rf | assumption | refine Fr.aJ g ?_ (by decide) | refine Fr.aI g ?_ (by decide) | refine Fr.sI g ?_ (by decide) | refine Fr.sJ g ?_ (by decide))) (by decide) (by decide), HeE.fr (jx := jx) (K := []) (S := [0]) z.1.2.2.1 (by repeat (first | exact Fr.rf | assumption | refine Fr.aJ g ?_ (by decide) | refine Fr.aI g ?_ (by decide) | refine Fr.sI g ?_ (by decide) | refine Fr.sJ g ?_ (by decide))) (by decide) (by decide), MkI.fr (rm := rm) (K := []) (S := [0]) z.1.2.2.2 (by repeat (first | exact Fr.rf | assumption | refine Fr.aJ g ?_ (by decide) | refine Fr.aI g ?_ (by decide) | refine Fr.sI g ?_ (by decide) | refine Fr.sJ g ?_ (by decide))) (by decide)⟩, LcI.fr (jx := jx) (K := []) (S := [0]) z.2.1 (by repeat (first | exact Fr.rf | assumption | refine Fr.aJ g ?_ (by decide) | refine Fr.aI g ?_ (by decide) | refine Fr.sI g ?_ (by decide) | refine Fr.sJ g ?_ (by decide))) (by decide) (by decide), fun i hi => by (try simp only [rII, rIJ, rIP, rJJ, rJI, rJP, rPP, rPI, rPJ, g1, g2, g3, g4, g5, g6, g7, g8, Nat.reduceEqDiff, Nat.reduceAdd, false_and, and_false, true_and, and_true, reduceIte, nZ0, nZ1, sσ23_30.1, sσ23_30.2, sσ23_33.1, sσ23_33.2, sσ23_34.1, sσ23_34.2, sσ23_36.1, sσ23_36.2, sσ23_50.1, sσ23_50.2, fun a k => (jσ23 a k).1, fun a k => (jσ23 a k).2]) <;> exact z.2.2 i hi⟩))
                  · (try simp only [rII, rIJ, rIP, rJJ, rJI, rJP, rPP, rPI, rPJ, g1, g2, g3, g4, g5, g6, g7, g8, Nat.reduceEqDiff, Nat.reduceAdd, false_and, and_false, true_and, and_true, reduceIte, nZ0, nZ1, sσ23_30.1, sσ23_30.2, sσ23_33.1, sσ23_33.2, sσ23_34.1, sσ23_34.2, sσ23_36.1, sσ23_36.2, sσ23_50.1, sσ23_50.2, fun a k => (jσ23 a k).1, fun a k => (jσ23 a k).2]) <;> (first | omega | with_reducible assumption | (unfold rng; omega) | (unfold rng; (repeat' split) <;> omega))
      refine ⟨_, L43 _ _ _ _ ?_ ?_ ?_ (Nat.lt_succ_self _)⟩
      · refine Rg.sI g ?_ (by simp only [rgS]; first | with_reducible exact nZ_rng _ | with_reducible exact nB_rng _ | with_reducible exact wr_rng _ | with_reducible exact i32any _ | (first | omega | with_reducible assumption | (unfold rng; omega) | (unfold rng; (repeat' split) <;> omega))); exact rσ
      · refine Fr.sI g ?_ (by decide); exact fσ
      · first | exact ⟨by omega, by omega, by omega, fun _ => k6, fun _ => p9⟩ | (refine ⟨by omega, by omega, by omega, fun q => ?_, fun q => ?_⟩; (first | ((try simp only [rII, rIJ, rIP, rJJ, rJI, rJP, rPP, rPI, rPJ, g1, g2, g3, g4, g5, g6, g7, g8, Nat.reduceEqDiff, Nat.reduceAdd, false_and, and_false, true_and, and_true, reduceIte, nZ0, nZ1] at q) <;> omega)); (have z := (hR q).2.1; exact ⟨⟨ThE.fr (jx := jx) (K := []) (S := [0]) z.1.1 (by repeat (first | exact Fr.rf | assumption | refine Fr.aJ g ?_ (by decide) | refine Fr.aI g ?_ (by decide) | refine Fr.sI g ?_ (by decide) | refine Fr.sJ g ?_ (by decide))) (by decide) (by decide), RecE.fr (K := []) (S := [0]) z.1.2.1 (by repeat (first | exact Fr.rf | assumption | refine Fr.aJ g ?_ (by decide) | refine Fr.aI g ?_ (by decide) | refine Fr.sI g ?_ (by decide) | refine Fr.sJ g ?_ (by decide))) (by decide) (by decide), HeE.fr (jx := jx) (K := []) (S := [0]) z.1.2.2.1 (by repeat (first | exact Fr.rf | assumption | refine Fr.aJ g ?_ (by decide) | refine Fr.aI g ?_ (by decide) | refine Fr.sI g ?_ (by decide) | refine Fr.sJ g ?_ (by decide))) (by decide) (by decide), MkI.fr (rm := rm) (K := []) (S := [0]) z.1.2.2.2 (by repeat (first | exact Fr.rf | assumption | refine Fr.aJ g ?_ (by decide) | refine Fr.aI g ?_ (by decide) | refine Fr.sI g ?_ (by decide) | refine Fr.sJ g ?_ (by decide))) (by decide)⟩, LcI.fr (jx := jx) (K := []) (S := [0]) z.2.1 (by repeat (first | exact Fr.rf | assumption | refine Fr.aJ g ?_ (by decide) | refine Fr.aI g ?_ (by decide) | refine Fr.sI g ?_ (by decide) | refine Fr.sJ g ?_ (by decide))) (by decide) (by decide), fun i hi => by (try simp only [rII, rIJ, rIP, rJJ, rJI, rJP, rPP, rPI, rPJ, g1, g2, g3, g4, g5, g6, g7, g8, Nat.reduceEqDiff, Nat.reduceAdd, false_and, and_false, true_and, and_true, reduceIte, nZ0, nZ1]) <;> exact z.2.2 i hi⟩))
set_option maxHeartbeats 8000000 in
theorem s_X16_clear {ra : Nat → Nat} {jx : Nat → Nat → Nat} {rm : Nat} (g : Geo ra jx rm) {σ : Sg} (rσ : Rg ra jx rm σ) {Q : Sg → Unit → Prop} {X : Sg → String → Prop} (hQ : ∀ (σ' : Sg) (r : Unit), Rg ra jx rm σ' → Fj ra jx rm [22, 25, 40, 41, 42, 43, 44, 45, 46, 47, 48, 49, 54, 55, 56, 57, 58, 65, 75, 76, 77, 78, 86, 87, 88, 89, 98] [0, 3, 4, 27, 30, 31, 32, 36, 50, 66, 67, 79, 80, 90, 91, 92, 93, 94, 96, 110, 111, 112] [99] σ σ' → (HeE ra rm σ' ∧ RecI ra rm σ' (fun a => if 0 ≤ a ∧ a < 4000 then 64 else -1) (fun a => 4000 - 1 - a) ∧ ThE ra rm σ' ∧ gI σ' rm 36 = 0 ∧ gI σ' rm 50 = 0 ∧ gI σ' rm 30 = 0 ∧ gI σ' rm 31 = 0 ∧ gI σ' (ra 98) 0 = 0 ∧ gI σ' (ra 98) 1 = 0 ∧ (∀ i : Nat, (i : Int) < 1100 → gI σ' (ra 54) i = 0) ∧ (∀ i : Nat, (i : Int) < 64 → gI σ' (ra 45) i = -1) ∧ gP σ' rm 17 = none ∧ gI σ' rm 32 = 0 ∧ gI σ' rm 3 = 0) → Q σ' r) : wp_X16_clear ra jx rm σ Q X := by
  obtain ⟨g1, g2, g3, g4, g5, g6, g7, g8⟩ := id g
  have fσ : Fj ra jx rm [22, 25, 40, 41, 42, 43, 44, 45, 46, 47, 48, 49, 54, 55, 56, 57, 58, 65, 75, 76, 77, 78, 86, 87, 88, 89, 98] [0, 3, 4, 27, 30, 31, 32, 36, 50, 66, 67, 79, 80, 90, 91, 92, 93, 94, 96, 110, 111, 112] [99] σ σ := Fj.rf
  unfold wp_X16_clear
  unfold w_X16_clear_0
  try simp only [forall_eq, rII, rIJ, rIP, rJJ, rJI, rJP, rPP, rPI, rPJ, g1, g2, g3, g4, g5, g6, g7, g8, Nat.reduceEqDiff, Nat.reduceAdd, false_and, and_false, true_and, and_true, reduceIte, nZ0, nZ1]
  have L32 : ∀ (fu32 : Nat) (τ32 : Sg) (v1 : Int), Rg ra jx rm τ32 → Fj ra jx rm [22, 25, 40, 41, 42, 43, 44, 45, 46, 47, 48, 49, 54, 55, 56, 57, 58, 65, 75, 76, 77, 78, 86, 87, 88, 89, 98] [0, 3, 4, 27, 30, 31, 32, 36, 50, 66, 67, 79, 80, 90, 91, 92, 93, 94, 96, 110, 111, 112] [99] σ τ32 → (0 ≤ v1 ∧ v1 ≤ 4 ∧ gP τ32 rm 17 = none ∧ gI τ32 rm 32 = 0 ∧ gI τ32 rm 3 = 0) → ((4 - v1).toNat) < fu32 → wl_X16_clear_32 ra jx rm Q X fu32 τ32 v1 := by
    intro fu32
    induction fu32 with
    | zero => intro τ32 _ _ _ _ h9; omega
    | succ fu32 ih32 =>
      intro τ32 v1 rτ32 fτ32 hi32 hm32
      unfold wl_X16_clear_32
      unfold w_X16_clear_32
      try simp only [forall_eq, rII, rIJ, rIP, rJJ, rJI, rJP, rPP, rPI, rPJ, g1, g2, g3, g4, g5, g6, g7, g8, Nat.reduceEqDiff, Nat.reduceAdd, false_and, and_false, true_and, and_true, reduceIte, nZ0, nZ1]
      split
      · rename_i hc34
        skip
        unfold w_X16_clear_57
        try simp only [forall_eq, rII, rIJ, rIP, rJJ, rJI, rJP, rPP, rPI, rPJ, g1, g2, g3, g4, g5, g6, g7, g8, Nat.reduceEqDiff, Nat.reduceAdd, false_and, and_false, true_and, and_true, reduceIte, nZ0, nZ1]
        refine s_X16_noRun g rτ32 (fun σ25 _ rσ25 fc p1 => ?_)
        have fσ25 : Fj ra jx rm [22, 25, 40, 41, 42, 43, 44, 45, 46, 47, 48, 49, 54, 55, 56, 57, 58, 65, 75, 76, 77, 78, 86, 87, 88, 89, 98] [0, 3, 4, 27, 30, 31, 32, 36, 50, 66, 67, 79, 80, 90, 91, 92, 93, 94, 96, 110, 111, 112] [99] σ σ25 := Fj.tr fτ32 (Fj.mor (fc.j) (by decide) (by decide) (by decide))
        have w17 := fc.2.2.2; have w32 := (fc.2.1 32 (by decide)).1; have w3 := (fc.2.1 3 (by decide)).1
        have p9 := p1
        try simp only [forall_eq, rII, rIJ, rIP, rJJ, rJI, rJP, rPP, rPI, rPJ, g1, g2, g3, g4, g5, g6, g7, g8, Nat.reduceEqDiff, Nat.reduceAdd, false_and, and_false, true_and, and_true, reduceIte, nZ0, nZ1]
        refine hQ _ _ ?_ ?_ ?_
        · exact rσ25
        · exact fσ25
        · obtain ⟨q1, q2, q3, q4, q5, q6, q7, q8, q9, q10, q11⟩ := p9; exact ⟨q1, q2, q3, q4, q5, q6, q7, q8, q9, q10, q11, by rw [w17]; exact hi32.2.2.1, by omega, by omega⟩
      · rename_i hc34
        skip
        unfold w_X16_clear_37
        try simp only [forall_eq, rII, rIJ, rIP, rJJ, rJI, rJP, rPP, rPI, rPJ, g1, g2, g3, g4, g5, g6, g7, g8, Nat.reduceEqDiff, Nat.reduceAdd, false_and, and_false, true_and, and_true, reduceIte, nZ0, nZ1]
        refine ⟨by (first | omega | with_reducible assumption | (unfold rng; omega) | (unfold rng; (repeat' split) <;> omega) | grind), ?_⟩
        refine ⟨by (first | omega | with_reducible assumption | (unfold rng; omega) | (unfold rng; (repeat' split) <;> omega) | grind), ?_⟩
        refine ⟨by (first | omega | with_reducible assumption | (unfold rng; omega) | (unfold rng; (repeat' split) <;> omega) | grind), ?_⟩
        refine ih32 _ _ ?_ ?_ ?_ ?_
        · refine Rg.aI g ?_ (by simp only [rgT]; first | with_reducible exact nZ_rng _ | with_reducible exact nB_rng _ | with_reducible exact wr_rng _ | with_reducible exact i32any _ | (first | omega | with_reducible assumption | (unfold rng; omega) | (unfold rng; (repeat' split) <;> omega) | grind)); refine Rg.aI g ?_ (by simp only [rgT]; first | with_reducible exact nZ_rng _ | with_reducible exact nB_rng _ | with_reducible exact wr_rng _ | with_reducible exact i32any _ | (first | omega | with_reducible assumption | (unfold rng; omega) | (unfold rng; (repeat' split) <;> omega) | grind)); exact rτ32
        · refine Fj.aI g ?_ (by decide); refine Fj.aI g ?_ (by decide); exact fτ32
        · (try simp only [rII, rIJ, rIP, rJJ, rJI, rJP, rPP, rPI, rPJ, g1, g2, g3, g4, g5, g6, g7, g8, Nat.reduceEqDiff, Nat.reduceAdd, false_and, and_false, true_and, and_true, reduceIte, nZ0, nZ1]) <;> (first | omega | with_reducible assumption | (unfold rng; omega) | (unfold rng; (repeat' split) <;> omega) | grind)
        · (try simp only [rII, rIJ, rIP, rJJ, rJI, rJP, rPP, rPI, rPJ, g1, g2, g3, g4, g5, g6, g7, g8, Nat.reduceEqDiff, Nat.reduceAdd, false_and, and_false, true_and, and_true, reduceIte, nZ0, nZ1]) <;> (first | omega | with_reducible assumption | (unfold rng; omega) | (unfold rng; (repeat' split) <;> omega) | grind)
  refine ⟨_, L32 _ _ _ ?_ ?_ ?_ (Nat.lt_succ_self _)⟩
  · refine Rg.sI g ?_ (by simp only [rgS]; first | with_reducible exact nZ_rng _ | with_reducible exact nB_rng _ | with_reducible exact wr_rng _ | with_reducible exact i32any _ | (first | omega | with_reducible assumption | (unfold rng; omega) | (unfold rng; (repeat' split) <;> omega) | grind)); refine Rg.sI g ?_ (by simp only [rgS]; first | with_reducible exact nZ_rng _ | with_reducible exact nB_rng _ | with_reducible exact wr_rng _ | with_reducible exact i32any _ | (first | omega | with_reducible assumption | (unfold rng; omega) | (unfold rng; (repeat' split) <;> omega) | grind)); refine Rg.pP ?_; refine Rg.sI g ?_ (by simp only [rgS]; first | with_reducible exact nZ_rng _ | with_reducible exact nB_rng _ | with_reducible exact wr_rng _ | with_reducible exact i32any _ | (first | omega | with_reducible assumption | (unfold rng; omega) | (unfold rng; (repeat' split) <;> omega) | grind)); refine Rg.sI g ?_ (by simp only [rgS]; first | with_reducible exact nZ_rng _ | with_reducible exact nB_rng _ | with_reducible exact wr_rng _ | with_reducible exact i32any _ | (first | omega | with_reducible assumption | (unfold rng; omega) | (unfold rng; (repeat' split) <;> omega) | grind)); refine Rg.sI g ?_ (by simp only [rgS]; first | with_reducible exact nZ_rng _ | with_reducible exact nB_rng _ | with_reducible exact wr_rng _ | with_reducible exact i32any _ | (first | omega | with_reducible assumption | (unfold rng; omega) | (unfold rng; (repeat' split) <;> omega) | grind)); exact rσ
  · refine Fj.sI g ?_ (by decide); refine Fj.sI g ?_ (by decide); refine Fj.pP ?_ (by decide); refine Fj.sI g ?_ (by decide); refine Fj.sI g ?_ (by decide); refine Fj.sI g ?_ (by decide); exact fσ
  · (try simp only [rII, rIJ, rIP, rJJ, rJI, rJP, rPP, rPI, rPJ, g1, g2, g3, g4, g5, g6, g7, g8, Nat.reduceEqDiff, Nat.reduceAdd, false_and, and_false, true_and, and_true, reduceIte, nZ0, nZ1]) <;> (first | omega | with_reducible assumption | (unfold rng; omega) | (unfold rng; (repeat' split) <;> omega) | grind)
set_option maxHeartbeats 2000000 in
theorem s2_X16_channel {ra : Nat → Nat} {jx : Nat → Nat → Nat} {rm : Nat} (g : Geo ra jx rm) {σ : Sg} {v1 : Int} {v2 : Int} {v3 : Int} (rσ : Rg ra jx rm σ) (h1 : 0 ≤ v1 ∧ v1 < 64) (h2 : 0 ≤ v2 ∧ v2 < 64) (h3 : 0 ≤ v3 ∧ v3 ≤ 1) (hc : gI σ rm 50 < 1100) {Q : Sg → Unit → Prop} {X : Sg → String → Prop} (hQ : ∀ (σ' : Sg) (r : Unit), Rg ra jx rm σ' → Fr ra jx rm [51, 52, 53] [50] σ σ' → (gI σ' rm 50 = gI σ rm 50 + 1 ∧ (∀ i : Nat, gI σ' (ra 52) i = if i = (gI σ rm 50).toNat then v2 else gI σ (ra 52) i) ∧ (∀ i : Nat, gI σ' (ra 53) i = if i = (gI σ rm 50).toNat then v3 else gI σ (ra 53) i)) → Q σ' r) : wp_X16_channel ra jx rm v1 v2 v3 σ Q X := by
  obtain ⟨g1, g2, g3, g4, g5, g6, g7, g8⟩ := id g
  have fσ : Fr ra jx rm [51, 52, 53] [50] σ σ := Fr.rf
  unfold wp_X16_channel
  unfold w_X16_channel_0
  try simp only [forall_eq, rII, rIJ, rIP, rJJ, rJI, rJP, rPP, rPI, rPJ, g1, g2, g3, g4, g5, g6, g7, g8, Nat.reduceEqDiff, Nat.reduceAdd, false_and, and_false, true_and, and_true, reduceIte, nZ0, nZ1]
  have q1 := rσ.2.1 50; simp only [rgS] at q1
  refine ⟨by (first | omega | with_reducible assumption | (unfold rng; omega) | (unfold rng; (repeat' split) <;> omega) | grind), ?_⟩
  refine ⟨by (first | omega | with_reducible assumption | (unfold rng; omega) | (unfold rng; (repeat' split) <;> omega) | grind), ?_⟩
  refine ⟨by (first | omega | with_reducible assumption | (unfold rng; omega) | (unfold rng; (repeat' split) <;> omega) | grind), ?_⟩
  refine ⟨by (first | omega | with_reducible assumption | (unfold rng; omega) | (unfold rng; (repeat' split) <;> omega) | grind), ?_⟩
  refine hQ _ _ ?_ ?_ ?_
  · refine Rg.sI g ?_ (by simp only [rgS]; first | with_reducible exact nZ_rng _ | with_reducible exact nB_rng _ | with_reducible exact wr_rng _ | with_reducible exact i32any _ | (first | omega | with_reducible assumption | (unfold rng; omega) | (unfold rng; (repeat' split) <;> omega) | grind)); refine Rg.aI g ?_ (by simp only [rgT]; first | with_reducible exact nZ_rng _ | with_reducible exact nB_rng _ | with_reducible exact wr_rng _ | with_reducible exact i32any _ | (first | omega | with_reducible assumption | (unfold rng; omega) | (unfold rng; (repeat' split) <;> omega) | grind)); refine Rg.aI g ?_ (by simp only [rgT]; first | with_reducible exact nZ_rng _ | with_reducible exact nB_rng _ | with_reducible exact wr_rng _ | with_reducible exact i32any _ | (first | omega | with_reducible assumption | (unfold rng; omega) | (unfold rng; (repeat' split) <;> omega) | grind)); refine Rg.aI g ?_ (by simp only [rgT]; first | with_reducible exact nZ_rng _ | with_reducible exact nB_rng _ | with_reducible exact wr_rng _ | with_reducible exact i32any _ | (first | omega | with_reducible assumption | (unfold rng; omega) | (unfold rng; (repeat' split) <;> omega) | grind)); exact rσ
  · refine Fr.sI g ?_ (by decide); refine Fr.aI g ?_ (by decide); refine Fr.aI g ?_ (by decide); refine Fr.aI g ?_ (by decide); exact fσ
  · refine ⟨?_, fun i => ?_, fun i => ?_⟩ <;> (try simp only [rII, rIJ, rIP, rJJ, rJI, rJP, rPP, rPI, rPJ, g1, g2, g3, g4, g5, g6, g7, g8, Nat.reduceEqDiff, Nat.reduceAdd, false_and, and_false, true_and, and_true, reduceIte, nZ0, nZ1]) <;> first | rfl | omega | grind
set_option maxHeartbeats 4000000 in
theorem s_X16_layChannels {ra : Nat → Nat} {jx : Nat → Nat → Nat} {rm : Nat} {ja : Nat} (g : Geo ra jx rm) {σ : Sg} {v1 : Int} {v2 : Int} {v3 : Int} (rσ : Rg ra jx rm σ) (hj : gP σ rm 17 = some ja) (hja : ja = ra 15 ∨ ja = ra 16) (h1 : 0 ≤ v1 ∧ v1 < 64) (h2 : 0 ≤ v2 ∧ v2 ≤ 1) (h3 : 0 ≤ v3 ∧ v3 < 16) (hc : gI σ rm 50 + 4 ≤ 1100) (hfi : ((gI σ (jx ja 2) v3.toNat = 0 ∨ gI σ (jx ja 2) v3.toNat = 10 ∨ gI σ (jx ja 2) v3.toNat = 11) → gI σ (ra 37) v3.toNat + 1 ≤ 64) ∧ (¬ (gI σ (jx ja 2) v3.toNat = 0 ∨ gI σ (jx ja 2) v3.toNat = 10 ∨ gI σ (jx ja 2) v3.toNat = 11) → gI σ (ra 37) v3.toNat + gI σ rm 33 ≤ 64)) (hpt : (gI σ (jx ja 2) (gI σ (ra 38) v1.toNat).toNat = 0 ∨ gI σ (jx ja 2) (gI σ (ra 38) v1.toNat).toNat = 10 ∨ gI σ (jx ja 2) (gI σ (ra 38) v1.toNat).toNat = 11) ∨ gI σ (ra 39) v1.toNat < gI σ rm 33) (hp : 1 ≤ gI σ rm 33) {Q : Sg → Unit → Prop} {X : Sg → String → Prop} (hQ : ∀ (σ' : Sg) (r : Unit), Rg ra jx rm σ' → Fr ra jx rm [51, 52, 53] [50] σ σ' → ((gI σ rm 50 ≤ gI σ' rm 50 ∧ gI σ' rm 50 ≤ gI σ rm 50 + 4) ∧ (∀ i : Nat, (i : Int) < gI σ rm 50 → gI σ' (ra 52) i = gI σ (ra 52) i ∧ gI σ' (ra 53) i = gI σ (ra 53) i) ∧ (∀ i : Nat, gI σ rm 50 ≤ (i : Int) → (i : Int) < gI σ' rm 50 → gI σ' (ra 52) i = v1 ∧ gI σ' (ra 53) i = v2)) → Q σ' r) : wp_X16_layChannels ra jx rm v1 v2 v3 σ Q X := by
  obtain ⟨g1, g2, g3, g4, g5, g6, g7, g8⟩ := id g
  have fσ : Fr ra jx rm [51, 52, 53] [50] σ σ := Fr.rf
  have hoo := rσ.1 38 v1.toNat; simp only [rgT] at hoo
  have h33 := rσ.2.1 33; simp only [rgS] at h33
  have h37 := rσ.1 37 v3.toNat; simp only [rgT] at h37
  have h39 := rσ.1 39 v1.toNat; simp only [rgT] at h39
  have h50 := rσ.2.1 50; simp only [rgS] at h50
  unfold wp_X16_layChannels
  unfold w_X16_layChannels_0
  try simp only [forall_eq, rII, rIJ, rIP, rJJ, rJI, rJP, rPP, rPI, rPJ, g1, g2, g3, g4, g5, g6, g7, g8, Nat.reduceEqDiff, Nat.reduceAdd, false_and, and_false, true_and, and_true, reduceIte, nZ0, nZ1]
  refine ⟨by (first | omega | with_reducible assumption | (unfold rng; omega) | (unfold rng; (repeat' split) <;> omega)), ?_⟩
  have q1 := rσ.1 38 (v1.toNat); simp only [rgT] at q1
  refine s_X16_isKeyed g rσ (by first | exact hj | (rw [fσ.2.2.2]; exact hj)) hja (by (try simp only [rII, rIJ, rIP, rJJ, rJI, rJP, rPP, rPI, rPJ, g1, g2, g3, g4, g5, g6, g7, g8, Nat.reduceEqDiff, Nat.reduceAdd, false_and, and_false, true_and, and_true, reduceIte, nZ0, nZ1]) <;> (first | omega | with_reducible assumption | (unfold rng; omega) | (unfold rng; (repeat' split) <;> omega))) (fun r22 p2 => ?_)
  try simp only [forall_eq, rII, rIJ, rIP, rJJ, rJI, rJP, rPP, rPI, rPJ, g1, g2, g3, g4, g5, g6, g7, g8, Nat.reduceEqDiff, Nat.reduceAdd, false_and, and_false, true_and, and_true, reduceIte, nZ0, nZ1]
  split
  · rename_i hc14
    skip
    unfold w_X16_layChannels_26
    try simp only [forall_eq, rII, rIJ, rIP, rJJ, rJI, rJP, rPP, rPI, rPJ, g1, g2, g3, g4, g5, g6, g7, g8, Nat.reduceEqDiff, Nat.reduceAdd, false_and, and_false, true_and, and_true, reduceIte, nZ0, nZ1]
    unfold w_X16_layChannels_31
    try simp only [forall_eq, rII, rIJ, rIP, rJJ, rJI, rJP, rPP, rPI, rPJ, g1, g2, g3, g4, g5, g6, g7, g8, Nat.reduceEqDiff, Nat.reduceAdd, false_and, and_false, true_and, and_true, reduceIte, nZ0, nZ1]
    refine s_X16_partsOf g rσ (by first | exact hj | (rw [fσ.2.2.2]; exact hj)) hja (by (try simp only [rII, rIJ, rIP, rJJ, rJI, rJP, rPP, rPI, rPJ, g1, g2, g3, g4, g5, g6, g7, g8, Nat.reduceEqDiff, Nat.reduceAdd, false_and, and_false, true_and, and_true, reduceIte, nZ0, nZ1]) <;> (first | omega | with_reducible assumption | (unfold rng; omega) | (unfold rng; (repeat' split) <;> omega))) (fun r24 p3 => ?_)
    try simp only [forall_eq, rII, rIJ, rIP, rJJ, rJI, rJP, rPP, rPI, rPJ, g1, g2, g3, g4, g5, g6, g7, g8, Nat.reduceEqDiff, Nat.reduceAdd, false_and, and_false, true_and, and_true, reduceIte, nZ0, nZ1]
    have hs35 := p3
    try rw [if_neg (by decide)]
    unfold w_X16_layChannels_45
    try simp only [forall_eq, rII, rIJ, rIP, rJJ, rJI, rJP, rPP, rPI, rPJ, g1, g2, g3, g4, g5, g6, g7, g8, Nat.reduceEqDiff, Nat.reduceAdd, false_and, and_false, true_and, and_true, reduceIte, nZ0, nZ1]
    have q4 := rσ.2.1 50; simp only [rgS] at q4
    have L48 : ∀ (fu48 : Nat) (τ48 : Sg) (v7 : Int), Rg ra jx rm τ48 → Fr ra jx rm [51, 52, 53] [50] σ τ48 → ((0 ≤ v7 ∧ v7 ≤ r24 ∧ gI τ48 rm 50 = gI σ rm 50 + v7) ∧ (∀ i : Nat, (i : Int) < gI σ rm 50 → gI τ48 (ra 52) i = gI σ (ra 52) i ∧ gI τ48 (ra 53) i = gI σ (ra 53) i) ∧ (∀ i : Nat, gI σ rm 50 ≤ (i : Int) → (i : Int) < gI τ48 rm 50 → gI τ48 (ra 52) i = v1 ∧ gI τ48 (ra 53) i = v2)) → ((r24 - v7).toNat) < fu48 → wl_X16_layChannels_48 ra jx rm Q X fu48 τ48 v1 v2 v3 r24 v7 := by
      intro fu48
      induction fu48 with
      | zero => intro τ48 _ _ _ _ h9; omega
      | succ fu48 ih48 =>
        intro τ48 v7 rτ48 fτ48 hi48 hm48
        unfold wl_X16_layChannels_48
        have eτ48_37 := fτ48.1 37 (by decide)
        have eτ48_38 := fτ48.1 38 (by decide)
        have eτ48_39 := fτ48.1 39 (by decide)
        have sτ48_33 := fτ48.2.1 33 (by decide)
        have jτ48 := fτ48.2.2.1
        unfold w_X16_layChannels_48
        try simp only [forall_eq, rII, rIJ, rIP, rJJ, rJI, rJP, rPP, rPI, rPJ, g1, g2, g3, g4, g5, g6, g7, g8, Nat.reduceEqDiff, Nat.reduceAdd, false_and, and_false, true_and, and_true, reduceIte, nZ0, nZ1, eτ48_37.1, eτ48_37.2, eτ48_38.1, eτ48_38.2, eτ48_39.1, eτ48_39.2, sτ48_33.1, sτ48_33.2, fun a k => (jτ48 a k).1, fun a k => (jτ48 a k).2]
        obtain ⟨⟨k1, k2, k3⟩, k4, k5⟩ := hi48
        have ks2 := hs35
        split
        · rename_i hc52
          skip
          unfold w_X16_layChannels_76
          try simp only [forall_eq, rII, rIJ, rIP, rJJ, rJI, rJP, rPP, rPI, rPJ, g1, g2, g3, g4, g5, g6, g7, g8, Nat.reduceEqDiff, Nat.reduceAdd, false_and, and_false, true_and, and_true, reduceIte, nZ0, nZ1, eτ48_37.1, eτ48_37.2, eτ48_38.1, eτ48_38.2, eτ48_39.1, eτ48_39.2, sτ48_33.1, sτ48_33.2, fun a k => (jτ48 a k).1, fun a k => (jτ48 a k).2]
          unfold w_X16_layChannels_110
          try simp only [forall_eq, rII, rIJ, rIP, rJJ, rJI, rJP, rPP, rPI, rPJ, g1, g2, g3, g4, g5, g6, g7, g8, Nat.reduceEqDiff, Nat.reduceAdd, false_and, and_false, true_and, and_true, reduceIte, nZ0, nZ1, eτ48_37.1, eτ48_37.2, eτ48_38.1, eτ48_38.2, eτ48_39.1, eτ48_39.2, sτ48_33.1, sτ48_33.2, fun a k => (jτ48 a k).1, fun a k => (jτ48 a k).2]
          refine hQ _ _ ?_ ?_ ?_
          · exact rτ48
          · exact fτ48
          · first | exact ⟨⟨by omega, by omega⟩, k4, k5⟩ | (refine ⟨⟨by omega, by omega⟩, fun i hi => ?_, fun i h0 hi => ?_⟩ <;> rw [pc9.2.1 i, pc9.2.2 i] <;> (by_cases q : i = (gI σ rm 50).toNat; (first | omega | (rw [if_pos q, if_pos q]; exact ⟨rfl, rfl⟩)); (rw [if_neg q, if_neg q]; first | exact ⟨rfl, rfl⟩ | omega)))
        · rename_i hc52
          skip
          unfold w_X16_layChannels_55
          try simp only [forall_eq, rII, rIJ, rIP, rJJ, rJI, rJP, rPP, rPI, rPJ, g1, g2, g3, g4, g5, g6, g7, g8, Nat.reduceEqDiff, Nat.reduceAdd, false_and, and_false, true_and, and_true, reduceIte, nZ0, nZ1, eτ48_37.1, eτ48_37.2, eτ48_38.1, eτ48_38.2, eτ48_39.1, eτ48_39.2, sτ48_33.1, sτ48_33.2, fun a k => (jτ48 a k).1, fun a k => (jτ48 a k).2]
          refine ⟨by (first | omega | with_reducible assumption | (unfold rng; omega) | (unfold rng; (repeat' split) <;> omega)), ?_⟩
          have q5 := rσ.1 37 (v3.toNat); simp only [rgT] at q5
          refine ⟨by (first | omega | with_reducible assumption | (unfold rng; omega) | (unfold rng; (repeat' split) <;> omega)), ?_⟩
          refine s2_X16_channel g rτ48 (by (try simp only [rII, rIJ, rIP, rJJ, rJI, rJP, rPP, rPI, rPJ, g1, g2, g3, g4, g5, g6, g7, g8, Nat.reduceEqDiff, Nat.reduceAdd, false_and, and_false, true_and, and_true, reduceIte, nZ0, nZ1, eτ48_37.1, eτ48_37.2, eτ48_38.1, eτ48_38.2, eτ48_39.1, eτ48_39.2, sτ48_33.1, sτ48_33.2, fun a k => (jτ48 a k).1, fun a k => (jτ48 a k).2]) <;> (first | omega | with_reducible assumption | (unfold rng; omega) | (unfold rng; (repeat' split) <;> omega))) (by (try simp only [rII, rIJ, rIP, rJJ, rJI, rJP, rPP, rPI, rPJ, g1, g2, g3, g4, g5, g6, g7, g8, Nat.reduceEqDiff, Nat.reduceAdd, false_and, and_false, true_and, and_true, reduceIte, nZ0, nZ1, eτ48_37.1, eτ48_37.2, eτ48_38.1, eτ48_38.2, eτ48_39.1, eτ48_39.2, sτ48_33.1, sτ48_33.2, fun a k => (jτ48 a k).1, fun a k => (jτ48 a k).2]) <;> (first | omega | with_reducible assumption | (unfold rng; omega) | (unfold rng; (repeat' split) <;> omega))) (by (try simp only [rII, rIJ, rIP, rJJ, rJI, rJP, rPP, rPI, rPJ, g1, g2, g3, g4, g5, g6, g7, g8, Nat.reduceEqDiff, Nat.reduceAdd, false_and, and_false, true_and, and_true, reduceIte, nZ0, nZ1, eτ48_37.1, eτ48_37.2, eτ48_38.1, eτ48_38.2, eτ48_39.1, eτ48_39.2, sτ48_33.1, sτ48_33.2, fun a k => (jτ48 a k).1, fun a k => (jτ48 a k).2]) <;> (first | omega | with_reducible assumption | (unfold rng; omega) | (unfold rng; (repeat' split) <;> omega))) (by (try simp only [rII, rIJ, rIP, rJJ, rJI, rJP, rPP, rPI, rPJ, g1, g2, g3, g4, g5, g6, g7, g8, Nat.reduceEqDiff, Nat.reduceAdd, false_and, and_false, true_and, and_true, reduceIte, nZ0, nZ1, eτ48_37.1, eτ48_37.2, eτ48_38.1, eτ48_38.2, eτ48_39.1, eτ48_39.2, sτ48_33.1, sτ48_33.2, fun a k => (jτ48 a k).1, fun a k => (jτ48 a k).2]) <;> (first | omega | with_reducible assumption | (unfold rng; omega) | (unfold rng; (repeat' split) <;> omega))) (fun σ25 _ rσ25 fc p6 => ?_)
          have fσ25 : Fr ra jx rm [51, 52, 53] [50] σ σ25 := Fr.tr fτ48 (Fr.mor (fc) (by decide) (by decide))
          have pc9 := p6
          have pc8 := pc9.1
          have eσ25_37 := fσ25.1 37 (by decide)
          have eσ25_38 := fσ25.1 38 (by decide)
          have eσ25_39 := fσ25.1 39 (by decide)
          have sσ25_33 := fσ25.2.1 33 (by decide)
          have jσ25 := fσ25.2.2.1
          try simp only [forall_eq, rII, rIJ, rIP, rJJ, rJI, rJP, rPP, rPI, rPJ, g1, g2, g3, g4, g5, g6, g7, g8, Nat.reduceEqDiff, Nat.reduceAdd, false_and, and_false, true_and, and_true, reduceIte, nZ0, nZ1, eσ25_37.1, eσ25_37.2, eσ25_38.1, eσ25_38.2, eσ25_39.1, eσ25_39.2, sσ25_33.1, sσ25_33.2, fun a k => (jσ25 a k).1, fun a k => (jσ25 a k).2]
          refine ⟨by (first | omega | with_reducible assumption | (unfold rng; omega) | (unfold rng; (repeat' split) <;> omega)), ?_⟩
          refine ih48 _ _ ?_ ?_ ?_ ?_
          · exact rσ25
          · exact fσ25
          · first | exact ⟨⟨by omega, by omega, by omega⟩, fun i hi => ⟨rfl, rfl⟩, fun i h0 hi => absurd hi (by omega)⟩ | (refine ⟨⟨by omega, by omega, by omega⟩, fun i hi => ?_, fun i h0 hi => ?_⟩ <;> rw [pc9.2.1 i, pc9.2.2 i] <;> (by_cases q : i = (gI τ48 rm 50).toNat; (first | omega | (rw [if_pos q, if_pos q]; exact ⟨rfl, rfl⟩)); (rw [if_neg q, if_neg q]; first | exact k4 i hi | exact k5 i h0 (by omega))))
          · (try simp only [rII, rIJ, rIP, rJJ, rJI, rJP, rPP, rPI, rPJ, g1, g2, g3, g4, g5, g6, g7, g8, Nat.reduceEqDiff, Nat.reduceAdd, false_and, and_false, true_and, and_true, reduceIte, nZ0, nZ1, eσ25_37.1, eσ25_37.2, eσ25_38.1, eσ25_38.2, eσ25_39.1, eσ25_39.2, sσ25_33.1, sσ25_33.2, fun a k => (jσ25 a k).1, fun a k => (jσ25 a k).2]) <;> (first | omega | with_reducible assumption | (unfold rng; omega) | (unfold rng; (repeat' split) <;> omega))
    refine ⟨_, L48 _ _ _ ?_ ?_ ?_ (Nat.lt_succ_self _)⟩
    · exact rσ
    · exact fσ
    · first | exact ⟨⟨by omega, by omega, by omega⟩, fun i hi => ⟨rfl, rfl⟩, fun i h0 hi => absurd hi (by omega)⟩ | (refine ⟨⟨by omega, by omega, by omega⟩, fun i hi => ?_, fun i h0 hi => ?_⟩ <;> rw [pc9.2.1 i, pc9.2.2 i] <;> (by_cases q : i = (gI τ48 rm 50).toNat; (first | omega | (rw [if_pos q, if_pos q]; exact ⟨rfl, rfl⟩)); (rw [if_neg q, if_neg q]; first | exact k4 i hi | exact k5 i h0 (by omega))))
  · rename_i hc14
    skip
    unfold w_X16_layChannels_17
    try simp only [forall_eq, rII, rIJ, rIP, rJJ, rJI, rJP, rPP, rPI, rPJ, g1, g2, g3, g4, g5, g6, g7, g8, Nat.reduceEqDiff, Nat.reduceAdd, false_and, and_false, true_and, and_true, reduceIte, nZ0, nZ1]
    refine s_X16_isSingle g rσ (by first | exact hj | (rw [fσ.2.2.2]; exact hj)) hja (by (try simp only [rII, rIJ, rIP, rJJ, rJI, rJP, rPP, rPI, rPJ, g1, g2, g3, g4, g5, g6, g7, g8, Nat.reduceEqDiff, Nat.reduceAdd, false_and, and_false, true_and, and_true, reduceIte, nZ0, nZ1]) <;> (first | omega | with_reducible assumption | (unfold rng; omega) | (unfold rng; (repeat' split) <;> omega))) (fun r27 p7 => ?_)
    try simp only [forall_eq, rII, rIJ, rIP, rJJ, rJI, rJP, rPP, rPI, rPJ, g1, g2, g3, g4, g5, g6, g7, g8, Nat.reduceEqDiff, Nat.reduceAdd, false_and, and_false, true_and, and_true, reduceIte, nZ0, nZ1]
    have hs20 := p7
    split
    · rename_i hc23
      skip
      unfold w_X16_layChannels_30
      try simp only [forall_eq, rII, rIJ, rIP, rJJ, rJI, rJP, rPP, rPI, rPJ, g1, g2, g3, g4, g5, g6, g7, g8, Nat.reduceEqDiff, Nat.reduceAdd, false_and, and_false, true_and, and_true, reduceIte, nZ0, nZ1]
      unfold w_X16_layChannels_31
      try simp only [forall_eq, rII, rIJ, rIP, rJJ, rJI, rJP, rPP, rPI, rPJ, g1, g2, g3, g4, g5, g6, g7, g8, Nat.reduceEqDiff, Nat.reduceAdd, false_and, and_false, true_and, and_true, reduceIte, nZ0, nZ1]
      refine s_X16_partsOf g rσ (by first | exact hj | (rw [fσ.2.2.2]; exact hj)) hja (by (try simp only [rII, rIJ, rIP, rJJ, rJI, rJP, rPP, rPI, rPJ, g1, g2, g3, g4, g5, g6, g7, g8, Nat.reduceEqDiff, Nat.reduceAdd, false_and, and_false, true_and, and_true, reduceIte, nZ0, nZ1]) <;> (first | omega | with_reducible assumption | (unfold rng; omega) | (unfold rng; (repeat' split) <;> omega))) (fun r29 p8 => ?_)
      try simp only [forall_eq, rII, rIJ, rIP, rJJ, rJI, rJP, rPP, rPI, rPJ, g1, g2, g3, g4, g5, g6, g7, g8, Nat.reduceEqDiff, Nat.reduceAdd, false_and, and_false, true_and, and_true, reduceIte, nZ0, nZ1]
      have hs35 := p8
      try rw [if_pos (by decide)]
      unfold w_X16_layChannels_79
      try simp only [forall_eq, rII, rIJ, rIP, rJJ, rJI, rJP, rPP, rPI, rPJ, g1, g2, g3, g4, g5, g6, g7, g8, Nat.reduceEqDiff, Nat.reduceAdd, false_and, and_false, true_and, and_true, reduceIte, nZ0, nZ1]
      refine ⟨by (first | omega | with_reducible assumption | (unfold rng; omega) | (unfold rng; (repeat' split) <;> omega)), ?_⟩
      refine s_X16_isSingle g rσ (by first | exact hj | (rw [fσ.2.2.2]; exact hj)) hja (by (try simp only [rII, rIJ, rIP, rJJ, rJI, rJP, rPP, rPI, rPJ, g1, g2, g3, g4, g5, g6, g7, g8, Nat.reduceEqDiff, Nat.reduceAdd, false_and, and_false, true_and, and_true, reduceIte, nZ0, nZ1]) <;> (first | omega | with_reducible assumption | (unfold rng; omega) | (unfold rng; (repeat' split) <;> omega))) (fun r31 p9 => ?_)
      try simp only [forall_eq, rII, rIJ, rIP, rJJ, rJI, rJP, rPP, rPI, rPJ, g1, g2, g3, g4, g5, g6, g7, g8, Nat.reduceEqDiff, Nat.reduceAdd, false_and, and_false, true_and, and_true, reduceIte, nZ0, nZ1]
      have hs88 := p9
      split
      · rename_i hc91
        skip
        unfold w_X16_layChannels_98
        try simp only [forall_eq, rII, rIJ, rIP, rJJ, rJI, rJP, rPP, rPI, rPJ, g1, g2, g3, g4, g5, g6, g7, g8, Nat.reduceEqDiff, Nat.reduceAdd, false_and, and_false, true_and, and_true, reduceIte, nZ0, nZ1]
        refine ⟨by (first | omega | with_reducible assumption | (unfold rng; omega) | (unfold rng; (repeat' split) <;> omega)), ?_⟩
        unfold w_X16_layChannels_104
        try simp only [forall_eq, rII, rIJ, rIP, rJJ, rJI, rJP, rPP, rPI, rPJ, g1, g2, g3, g4, g5, g6, g7, g8, Nat.reduceEqDiff, Nat.reduceAdd, false_and, and_false, true_and, and_true, reduceIte, nZ0, nZ1]
        have q10 := rσ.1 37 (v3.toNat); simp only [rgT] at q10
        have q11 := rσ.1 39 (v1.toNat); simp only [rgT] at q11
        refine ⟨by (first | omega | with_reducible assumption | (unfold rng; omega) | (unfold rng; (repeat' split) <;> omega)), ?_⟩
        refine s2_X16_channel g rσ (by (try simp only [rII, rIJ, rIP, rJJ, rJI, rJP, rPP, rPI, rPJ, g1, g2, g3, g4, g5, g6, g7, g8, Nat.reduceEqDiff, Nat.reduceAdd, false_and, and_false, true_and, and_true, reduceIte, nZ0, nZ1]) <;> (first | omega | with_reducible assumption | (unfold rng; omega) | (unfold rng; (repeat' split) <;> omega))) (by (try simp only [rII, rIJ, rIP, rJJ, rJI, rJP, rPP, rPI, rPJ, g1, g2, g3, g4, g5, g6, g7, g8, Nat.reduceEqDiff, Nat.reduceAdd, false_and, and_false, true_and, and_true, reduceIte, nZ0, nZ1]) <;> (first | omega | with_reducible assumption | (unfold rng; omega) | (unfold rng; (repeat' split) <;> omega))) (by (try simp only [rII, rIJ, rIP, rJJ, rJI, rJP, rPP, rPI, rPJ, g1, g2, g3, g4, g5, g6, g7, g8, Nat.reduceEqDiff, Nat.reduceAdd, false_and, and_false, true_and, and_true, reduceIte, nZ0, nZ1]) <;> (first | omega | with_reducible assumption | (unfold rng; omega) | (unfold rng; (repeat' split) <;> omega))) (by (try simp only [rII, rIJ, rIP, rJJ, rJI, rJP, rPP, rPI, rPJ, g1, g2, g3, g4, g5, g6, g7, g8, Nat.reduceEqDiff, Nat.reduceAdd, false_and, and_false, true_and, and_true, reduceIte, nZ0, nZ1]) <;> (first | omega | with_reducible assumption | (unfold rng; omega) | (unfold rng; (repeat' split) <;> omega))) (fun σ32 _ rσ32 fc p12 => ?_)
        have fσ32 : Fr ra jx rm [51, 52, 53] [50] σ σ32 := Fr.tr fσ (Fr.mor (fc) (by decide) (by decide))
        have pc9 := p12
        have pc8 := pc9.1
        have eσ32_37 := fσ32.1 37 (by decide)
        have eσ32_38 := fσ32.1 38 (by decide)
        have eσ32_39 := fσ32.1 39 (by decide)
        have sσ32_33 := fσ32.2.1 33 (by decide)
        have jσ32 := fσ32.2.2.1
        try simp only [forall_eq, rII, rIJ, rIP, rJJ, rJI, rJP, rPP, rPI, rPJ, g1, g2, g3, g4, g5, g6, g7, g8, Nat.reduceEqDiff, Nat.reduceAdd, false_and, and_false, true_and, and_true, reduceIte, nZ0, nZ1, eσ32_37.1, eσ32_37.2, eσ32_38.1, eσ32_38.2, eσ32_39.1, eσ32_39.2, sσ32_33.1, sσ32_33.2, fun a k => (jσ32 a k).1, fun a k => (jσ32 a k).2]
        unfold w_X16_layChannels_110
        try simp only [forall_eq, rII, rIJ, rIP, rJJ, rJI, rJP, rPP, rPI, rPJ, g1, g2, g3, g4, g5, g6, g7, g8, Nat.reduceEqDiff, Nat.reduceAdd, false_and, and_false, true_and, and_true, reduceIte, nZ0, nZ1, eσ32_37.1, eσ32_37.2, eσ32_38.1, eσ32_38.2, eσ32_39.1, eσ32_39.2, sσ32_33.1, sσ32_33.2, fun a k => (jσ32 a k).1, fun a k => (jσ32 a k).2]
        refine hQ _ _ ?_ ?_ ?_
        · exact rσ32
        · exact fσ32
        · first | exact ⟨⟨by omega, by omega⟩, k4, k5⟩ | (refine ⟨⟨by omega, by omega⟩, fun i hi => ?_, fun i h0 hi => ?_⟩ <;> rw [pc9.2.1 i, pc9.2.2 i] <;> (by_cases q : i = (gI σ rm 50).toNat; (first | omega | (rw [if_pos q, if_pos q]; exact ⟨rfl, rfl⟩)); (rw [if_neg q, if_neg q]; first | exact ⟨rfl, rfl⟩ | omega)))
      · rename_i hc91
        skip
        unfold w_X16_layChannels_94
        try simp only [forall_eq, rII, rIJ, rIP, rJJ, rJI, rJP, rPP, rPI, rPJ, g1, g2, g3, g4, g5, g6, g7, g8, Nat.reduceEqDiff, Nat.reduceAdd, false_and, and_false, true_and, and_true, reduceIte, nZ0, nZ1]
        unfold w_X16_layChannels_104
        try simp only [forall_eq, rII, rIJ, rIP, rJJ, rJI, rJP, rPP, rPI, rPJ, g1, g2, g3, g4, g5, g6, g7, g8, Nat.reduceEqDiff, Nat.reduceAdd, false_and, and_false, true_and, and_true, reduceIte, nZ0, nZ1]
        have q13 := rσ.1 37 (v3.toNat); simp only [rgT] at q13
        refine ⟨by (first | omega | with_reducible assumption | (unfold rng; omega) | (unfold rng; (repeat' split) <;> omega)), ?_⟩
        refine s2_X16_channel g rσ (by (try simp only [rII, rIJ, rIP, rJJ, rJI, rJP, rPP, rPI, rPJ, g1, g2, g3, g4, g5, g6, g7, g8, Nat.reduceEqDiff, Nat.reduceAdd, false_and, and_false, true_and, and_true, reduceIte, nZ0, nZ1]) <;> (first | omega | with_reducible assumption | (unfold rng; omega) | (unfold rng; (repeat' split) <;> omega))) (by (try simp only [rII, rIJ, rIP, rJJ, rJI, rJP, rPP, rPI, rPJ, g1, g2, g3, g4, g5, g6, g7, g8, Nat.reduceEqDiff, Nat.reduceAdd, false_and, and_false, true_and, and_true, reduceIte, nZ0, nZ1]) <;> (first | omega | with_reducible assumption | (unfold rng; omega) | (unfold rng; (repeat' split) <;> omega))) (by (try simp only [rII, rIJ, rIP, rJJ, rJI, rJP, rPP, rPI, rPJ, g1, g2, g3, g4, g5, g6, g7, g8, Nat.reduceEqDiff, Nat.reduceAdd, false_and, and_false, true_and, and_true, reduceIte, nZ0, nZ1]) <;> (first | omega | with_reducible assumption | (unfold rng; omega) | (unfold rng; (repeat' split) <;> omega))) (by (try simp only [rII, rIJ, rIP, rJJ, rJI, rJP, rPP, rPI, rPJ, g1, g2, g3, g4, g5, g6, g7, g8, Nat.reduceEqDiff, Nat.reduceAdd, false_and, and_false, true_and, and_true, reduceIte, nZ0, nZ1]) <;> (first | omega | with_reducible assumption | (unfold rng; omega) | (unfold rng; (repeat' split) <;> omega))) (fun σ33 _ rσ33 fc p14 => ?_)
        have fσ33 : Fr ra jx rm [51, 52, 53] [50] σ σ33 := Fr.tr fσ (Fr.mor (fc) (by decide) (by decide))
        have pc9 := p14
        have pc8 := pc9.1
        have eσ33_37 := fσ33.1 37 (by decide)
        have eσ33_38 := fσ33.1 38 (by decide)
        have eσ33_39 := fσ33.1 39 (by decide)
        have sσ33_33 := fσ33.2.1 33 (by decide)
        have jσ33 := fσ33.2.2.1
        try simp only [forall_eq, rII, rIJ, rIP, rJJ, rJI, rJP, rPP, rPI, rPJ, g1, g2, g3, g4, g5, g6, g7, g8, Nat.reduceEqDiff, Nat.reduceAdd, false_and, and_false, true_and, and_true, reduceIte, nZ0, nZ1, eσ33_37.1, eσ33_37.2, eσ33_38.1, eσ33_38.2, eσ33_39.1, eσ33_39.2, sσ33_33.1, sσ33_33.2, fun a k => (jσ33 a k).1, fun a k => (jσ33 a k).2]
        unfold w_X16_layChannels_110
        try simp only [forall_eq, rII, rIJ, rIP, rJJ, rJI, rJP, rPP, rPI, rPJ, g1, g2, g3, g4, g5, g6, g7, g8, Nat.reduceEqDiff, Nat.reduceAdd, false_and, and_false, true_and, and_true, reduceIte, nZ0, nZ1, eσ33_37.1, eσ33_37.2, eσ33_38.1, eσ33_38.2, eσ33_39.1, eσ33_39.2, sσ33_33.1, sσ33_33.2, fun a k => (jσ33 a k).1, fun a k => (jσ33 a k).2]
        refine hQ _ _ ?_ ?_ ?_
        · exact rσ33
        · exact fσ33
        · first | exact ⟨⟨by omega, by omega⟩, k4, k5⟩ | (refine ⟨⟨by omega, by omega⟩, fun i hi => ?_, fun i h0 hi => ?_⟩ <;> rw [pc9.2.1 i, pc9.2.2 i] <;> (by_cases q : i = (gI σ rm 50).toNat; (first | omega | (rw [if_pos q, if_pos q]; exact ⟨rfl, rfl⟩)); (rw [if_neg q, if_neg q]; first | exact ⟨rfl, rfl⟩ | omega)))
    · rename_i hc23
      skip
      unfold w_X16_layChannels_26
      try simp only [forall_eq, rII, rIJ, rIP, rJJ, rJI, rJP, rPP, rPI, rPJ, g1, g2, g3, g4, g5, g6, g7, g8, Nat.reduceEqDiff, Nat.reduceAdd, false_and, and_false, true_and, and_true, reduceIte, nZ0, nZ1]
      unfold w_X16_layChannels_31
      try simp only [forall_eq, rII, rIJ, rIP, rJJ, rJI, rJP, rPP, rPI, rPJ, g1, g2, g3, g4, g5, g6, g7, g8, Nat.reduceEqDiff, Nat.reduceAdd, false_and, and_false, true_and, and_true, reduceIte, nZ0, nZ1]
      refine s_X16_partsOf g rσ (by first | exact hj | (rw [fσ.2.2.2]; exact hj)) hja (by (try simp only [rII, rIJ, rIP, rJJ, rJI, rJP, rPP, rPI, rPJ, g1, g2, g3, g4, g5, g6, g7, g8, Nat.reduceEqDiff, Nat.reduceAdd, false_and, and_false, true_and, and_true, reduceIte, nZ0, nZ1]) <;> (first | omega | with_reducible assumption | (unfold rng; omega) | (unfold rng; (repeat' split) <;> omega))) (fun r35 p15 => ?_)
      try simp only [forall_eq, rII, rIJ, rIP, rJJ, rJI, rJP, rPP, rPI, rPJ, g1, g2, g3, g4, g5, g6, g7, g8, Nat.reduceEqDiff, Nat.reduceAdd, false_and, and_false, true_and, and_true, reduceIte, nZ0, nZ1]
      have hs35 := p15
      try rw [if_neg (by decide)]
      unfold w_X16_layChannels_45
      try simp only [forall_eq, rII, rIJ, rIP, rJJ, rJI, rJP, rPP, rPI, rPJ, g1, g2, g3, g4, g5, g6, g7, g8, Nat.reduceEqDiff, Nat.reduceAdd, false_and, and_false, true_and, and_true, reduceIte, nZ0, nZ1]
      have q16 := rσ.2.1 50; simp only [rgS] at q16
      have L48 : ∀ (fu48 : Nat) (τ48 : Sg) (v7 : Int), Rg ra jx rm τ48 → Fr ra jx rm [51, 52, 53] [50] σ τ48 → ((0 ≤ v7 ∧ v7 ≤ r35 ∧ gI τ48 rm 50 = gI σ rm 50 + v7) ∧ (∀ i : Nat, (i : Int) < gI σ rm 50 → gI τ48 (ra 52) i = gI σ (ra 52) i ∧ gI τ48 (ra 53) i = gI σ (ra 53) i) ∧ (∀ i : Nat, gI σ rm 50 ≤ (i : Int) → (i : Int) < gI τ48 rm 50 → gI τ48 (ra 52) i = v1 ∧ gI τ48 (ra 53) i = v2)) → ((r35 - v7).toNat) < fu48 → wl_X16_layChannels_48 ra jx rm Q X fu48 τ48 v1 v2 v3 r35 v7 := by
        intro fu48
        induction fu48 with
        | zero => intro τ48 _ _ _ _ h9; omega
        | succ fu48 ih48 =>
          intro τ48 v7 rτ48 fτ48 hi48 hm48
          unfold wl_X16_layChannels_48
          have eτ48_37 := fτ48.1 37 (by decide)
          have eτ48_38 := fτ48.1 38 (by decide)
          have eτ48_39 := fτ48.1 39 (by decide)
          have sτ48_33 := fτ48.2.1 33 (by decide)
          have jτ48 := fτ48.2.2.1
          unfold w_X16_layChannels_48
          try simp only [forall_eq, rII, rIJ, rIP, rJJ, rJI, rJP, rPP, rPI, rPJ, g1, g2, g3, g4, g5, g6, g7, g8, Nat.reduceEqDiff, Nat.reduceAdd, false_and, and_false, true_and, and_true, reduceIte, nZ0, nZ1, eτ48_37.1, eτ48_37.2, eτ48_38.1, eτ48_38.2, eτ48_39.1, eτ48_39.2, sτ48_33.1, sτ48_33.2, fun a k => (jτ48 a k).1, fun a k => (jτ48 a k).2]
          obtain ⟨⟨k1, k2, k3⟩, k4, k5⟩ := hi48
          have ks2 := hs35
          split
          · rename_i hc52
            skip
            unfold w_X16_layChannels_76
            try simp only [forall_eq, rII, rIJ, rIP, rJJ, rJI, rJP, rPP, rPI, rPJ, g1, g2, g3, g4, g5, g6, g7, g8, Nat.reduceEqDiff, Nat.reduceAdd, false_and, and_false, true_and, and_true, reduceIte, nZ0, nZ1, eτ48_37.1, eτ48_37.2, eτ48_38.1, eτ48_38.2, eτ48_39.1, eτ48_39.2, sτ48_33.1, sτ48_33.2, fun a k => (jτ48 a k).1, fun a k => (jτ48 a k).2]
            unfold w_X16_layChannels_110
            try simp only [forall_eq, rII, rIJ, rIP, rJJ, rJI, rJP, rPP, rPI, rPJ, g1, g2, g3, g4, g5, g6, g7, g8, Nat.reduceEqDiff, Nat.reduceAdd, false_and, and_false, true_and, and_true, reduceIte, nZ0, nZ1, eτ48_37.1, eτ48_37.2, eτ48_38.1, eτ48_38.2, eτ48_39.1, eτ48_39.2, sτ48_33.1, sτ48_33.2, fun a k => (jτ48 a k).1, fun a k => (jτ48 a k).2]
            refine hQ _ _ ?_ ?_ ?_
            · exact rτ48
            · exact fτ48
            · first | exact ⟨⟨by omega, by omega⟩, k4, k5⟩ | (refine ⟨⟨by omega, by omega⟩, fun i hi => ?_, fun i h0 hi => ?_⟩ <;> rw [pc9.2.1 i, pc9.2.2 i] <;> (by_cases q : i = (gI σ rm 50).toNat; (first | omega | (rw [if_pos q, if_pos q]; exact ⟨rfl, rfl⟩)); (rw [if_neg q, if_neg q]; first | exact ⟨rfl, rfl⟩ | omega)))
          · rename_i hc52
            skip
            unfold w_X16_layChannels_55
            try simp only [forall_eq, rII, rIJ, rIP, rJJ, rJI, rJP, rPP, rPI, rPJ, g1, g2, g3, g4, g5, g6, g7, g8, Nat.reduceEqDiff, Nat.reduceAdd, false_and, and_false, true_and, and_true, reduceIte, nZ0, nZ1, eτ48_37.1, eτ48_37.2, eτ48_38.1, eτ48_38.2, eτ48_39.1, eτ48_39.2, sτ48_33.1, sτ48_33.2, fun a k => (jτ48 a k).1, fun a k => (jτ48 a k).2]
            refine ⟨by (first | omega | with_reducible assumption | (unfold rng; omega) | (unfold rng; (repeat' split) <;> omega)), ?_⟩
            have q17 := rσ.1 37 (v3.toNat); simp only [rgT] at q17
            refine ⟨by (first | omega | with_reducible assumption | (unfold rng; omega) | (unfold rng; (repeat' split) <;> omega)), ?_⟩
            refine s2_X16_channel g rτ48 (by (try simp only [rII, rIJ, rIP, rJJ, rJI, rJP, rPP, rPI, rPJ, g1, g2, g3, g4, g5, g6, g7, g8, Nat.reduceEqDiff, Nat.reduceAdd, false_and, and_false, true_and, and_true, reduceIte, nZ0, nZ1, eτ48_37.1, eτ48_37.2, eτ48_38.1, eτ48_38.2, eτ48_39.1, eτ48_39.2, sτ48_33.1, sτ48_33.2, fun a k => (jτ48 a k).1, fun a k => (jτ48 a k).2]) <;> (first | omega | with_reducible assumption | (unfold rng; omega) | (unfold rng; (repeat' split) <;> omega))) (by (try simp only [rII, rIJ, rIP, rJJ, rJI, rJP, rPP, rPI, rPJ, g1, g2, g3, g4, g5, g6, g7, g8, Nat.reduceEqDiff, Nat.reduceAdd, false_and, and_false, true_and, and_true, reduceIte, nZ0, nZ1, eτ48_37.1, eτ48_37.2, eτ48_38.1, eτ48_38.2, eτ48_39.1, eτ48_39.2, sτ48_33.1, sτ48_33.2, fun a k => (jτ48 a k).1, fun a k => (jτ48 a k).2]) <;> (first | omega | with_reducible assumption | (unfold rng; omega) | (unfold rng; (repeat' split) <;> omega))) (by (try simp only [rII, rIJ, rIP, rJJ, rJI, rJP, rPP, rPI, rPJ, g1, g2, g3, g4, g5, g6, g7, g8, Nat.reduceEqDiff, Nat.reduceAdd, false_and, and_false, true_and, and_true, reduceIte, nZ0, nZ1, eτ48_37.1, eτ48_37.2, eτ48_38.1, eτ48_38.2, eτ48_39.1, eτ48_39.2, sτ48_33.1, sτ48_33.2, fun a k => (jτ48 a k).1, fun a k => (jτ48 a k).2]) <;> (first | omega | with_reducible assumption | (unfold rng; omega) | (unfold rng; (repeat' split) <;> omega))) (by (try simp only [rII, rIJ, rIP, rJJ, rJI, rJP, rPP, rPI, rPJ, g1, g2, g3, g4, g5, g6, g7, g8, Nat.reduceEqDiff, Nat.reduceAdd, false_and, and_false, true_and, and_true, reduceIte, nZ0, nZ1, eτ48_37.1, eτ48_37.2, eτ48_38.1, eτ48_38.2, eτ48_39.1, eτ48_39.2, sτ48_33.1, sτ48_33.2, fun a k => (jτ48 a k).1, fun a k => (jτ48 a k).2]) <;> (first | omega | with_reducible assumption | (unfold rng; omega) | (unfold rng; (repeat' split) <;> omega))) (fun σ36 _ rσ36 fc p18 => ?_)
            have fσ36 : Fr ra jx rm [51, 52, 53] [50] σ σ36 := Fr.tr fτ48 (Fr.mor (fc) (by decide) (by decide))
            have pc9 := p18
            have pc8 := pc9.1
            have eσ36_37 := fσ36.1 37 (by decide)
            have eσ36_38 := fσ36.1 38 (by decide)
            have eσ36_39 := fσ36.1 39 (by decide)
            have sσ36_33 := fσ36.2.1 33 (by decide)
            have jσ36 := fσ36.2.2.1
            try simp only [forall_eq, rII, rIJ, rIP, rJJ, rJI, rJP, rPP, rPI, rPJ, g1, g2, g3, g4, g5, g6, g7, g8, Nat.reduceEqDiff, Nat.reduceAdd, false_and, and_false, true_and, and_true, reduceIte, nZ0, nZ1, eσ36_37.1, eσ36_37.2, eσ36_38.1, eσ36_38.2, eσ36_39.1, eσ36_39.2, sσ36_33.1, sσ36_33.2, fun a k => (jσ36 a k).1, fun a k => (jσ36 a k).2]
            refine ⟨by (first | omega | with_reducible assumption | (unfold rng; omega) | (unfold rng; (repeat' split) <;> omega)), ?_⟩
            refine ih48 _ _ ?_ ?_ ?_ ?_
            · exact rσ36
            · exact fσ36
            · first | exact ⟨⟨by omega, by omega, by omega⟩, fun i hi => ⟨rfl, rfl⟩, fun i h0 hi => absurd hi (by omega)⟩ | (refine ⟨⟨by omega, by omega, by omega⟩, fun i hi => ?_, fun i h0 hi => ?_⟩ <;> rw [pc9.2.1 i, pc9.2.2 i] <;> (by_cases q : i = (gI τ48 rm 50).toNat; (first | omega | (rw [if_pos q, if_pos q]; exact ⟨rfl, rfl⟩)); (rw [if_neg q, if_neg q]; first | exact k4 i hi | exact k5 i h0 (by omega))))
            · (try simp only [rII, rIJ, rIP, rJJ, rJI, rJP, rPP, rPI, rPJ, g1, g2, g3, g4, g5, g6, g7, g8, Nat.reduceEqDiff, Nat.reduceAdd, false_and, and_false, true_and, and_true, reduceIte, nZ0, nZ1, eσ36_37.1, eσ36_37.2, eσ36_38.1, eσ36_38.2, eσ36_39.1, eσ36_39.2, sσ36_33.1, sσ36_33.2, fun a k => (jσ36 a k).1, fun a k => (jσ36 a k).2]) <;> (first | omega | with_reducible assumption | (unfold rng; omega) | (unfold rng; (repeat' split) <;> omega))
      refine ⟨_, L48 _ _ _ ?_ ?_ ?_ (Nat.lt_succ_self _)⟩
      · exact rσ
      · exact fσ
      · first | exact ⟨⟨by omega, by omega, by omega⟩, fun i hi => ⟨rfl, rfl⟩, fun i h0 hi => absurd hi (by omega)⟩ | (refine ⟨⟨by omega, by omega, by omega⟩, fun i hi => ?_, fun i h0 hi => ?_⟩ <;> rw [pc9.2.1 i, pc9.2.2 i] <;> (by_cases q : i = (gI τ48 rm 50).toNat; (first | omega | (rw [if_pos q, if_pos q]; exact ⟨rfl, rfl⟩)); (rw [if_neg q, if_neg q]; first | exact k4 i hi | exact k5 i h0 (by omega))))


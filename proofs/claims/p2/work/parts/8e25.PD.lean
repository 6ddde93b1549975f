set_option maxHeartbeats 4000000 in
theorem s_X16_noRecords {ra : Nat → Nat} {jx : Nat → Nat → Nat} {rm : Nat} (g : Geo ra jx rm) {σ : Sg} (rσ : Rg ra jx rm σ) {Q : Sg → Unit → Prop} {X : Sg → String → Prop} (hQ : ∀ (σ' : Sg) (r : Unit), Rg ra jx rm σ' → Fr ra jx rm [75, 76, 77, 78] [79, 80] σ σ' → (RecI ra rm σ' (fun a => if 0 ≤ a ∧ a < 4000 then 64 else -1) (fun a => 4000 - 1 - a)) → Q σ' r) : wp_X16_noRecords ra jx rm σ Q X := by
  obtain ⟨g1, g2, g3, g4, g5, g6, g7, g8⟩ := id g
  have fσ : Fr ra jx rm [75, 76, 77, 78] [79, 80] σ σ := Fr.rf
  unfold wp_X16_noRecords
  unfold w_X16_noRecords_0
  try simp only [forall_eq, rII, rIJ, rIP, rJJ, rJI, rJP, rPP, rPI, rPJ, g1, g2, g3, g4, g5, g6, g7, g8, Nat.reduceEqDiff, Nat.reduceAdd, false_and, and_false, true_and, and_true, reduceIte, nZ0, nZ1]
  have L2 : ∀ (fu2 : Nat) (τ2 : Sg) (v1 : Int), Rg ra jx rm τ2 → Fr ra jx rm [75, 76, 77, 78] [79, 80] σ τ2 → (0 ≤ v1 ∧ v1 ≤ 4000 ∧ (∀ i : Nat, (i : Int) < v1 → gI τ2 (ra 75) i = if (i : Int) + 1 < 4000 then (i : Int) + 1 else -1)) → ((4000 - v1).toNat) < fu2 → wl_X16_noRecords_2 ra jx rm Q X fu2 τ2 v1 := by
    intro fu2
    induction fu2 with
    | zero => intro τ2 _ _ _ _ h9; omega
    | succ fu2 ih2 =>
      intro τ2 v1 rτ2 fτ2 hi2 hm2
      unfold wl_X16_noRecords_2
      have jτ2 := fτ2.2.2.1
      unfold w_X16_noRecords_2
      try simp only [forall_eq, rII, rIJ, rIP, rJJ, rJI, rJP, rPP, rPI, rPJ, g1, g2, g3, g4, g5, g6, g7, g8, Nat.reduceEqDiff, Nat.reduceAdd, false_and, and_false, true_and, and_true, reduceIte, nZ0, nZ1, fun a k => (jτ2 a k).1, fun a k => (jτ2 a k).2]
      have hf9 := hi2.2.2
      split
      · rename_i hc6
        skip
        unfold w_X16_noRecords_37
        try simp only [forall_eq, rII, rIJ, rIP, rJJ, rJI, rJP, rPP, rPI, rPJ, g1, g2, g3, g4, g5, g6, g7, g8, Nat.reduceEqDiff, Nat.reduceAdd, false_and, and_false, true_and, and_true, reduceIte, nZ0, nZ1, fun a k => (jτ2 a k).1, fun a k => (jτ2 a k).2]
        have L49 : ∀ (fu49 : Nat) (τ49 : Sg) (v1 : Int), Rg ra jx rm τ49 → Fr ra jx rm [75, 76, 77, 78] [79, 80] σ τ49 → (0 ≤ v1 ∧ v1 ≤ 64 ∧ gI τ49 rm 79 = 0 ∧ gI τ49 rm 80 = 0 ∧ (∀ i : Nat, (i : Int) < 4000 → gI τ49 (ra 75) i = if (i : Int) + 1 < 4000 then (i : Int) + 1 else -1) ∧ (∀ i : Nat, (i : Int) < v1 → gI τ49 (ra 76) i = -1 ∧ gI τ49 (ra 77) i = -1 ∧ gI τ49 (ra 78) i = 0)) → ((64 - v1).toNat) < fu49 → wl_X16_noRecords_49 ra jx rm Q X fu49 τ49 v1 := by
          intro fu49
          induction fu49 with
          | zero => intro τ49 _ _ _ _ h9; omega
          | succ fu49 ih49 =>
            intro τ49 v1 rτ49 fτ49 hi49 hm49
            unfold wl_X16_noRecords_49
            have jτ49 := fτ49.2.2.1
            unfold w_X16_noRecords_49
            try simp only [forall_eq, rII, rIJ, rIP, rJJ, rJI, rJP, rPP, rPI, rPJ, g1, g2, g3, g4, g5, g6, g7, g8, Nat.reduceEqDiff, Nat.reduceAdd, false_and, and_false, true_and, and_true, reduceIte, nZ0, nZ1, fun a k => (jτ49 a k).1, fun a k => (jτ49 a k).2]
            have k3 := hi49.2.2.1; have k4 := hi49.2.2.2.1; have hf9 := hi49.2.2.2.2.1; have hg9 := hi49.2.2.2.2.2; have k1 := hi49.1; have k2 := hi49.2.1; clear hi49
            split
            · rename_i hc52
              skip
              unfold w_X16_noRecords_82
              try simp only [forall_eq, rII, rIJ, rIP, rJJ, rJI, rJP, rPP, rPI, rPJ, g1, g2, g3, g4, g5, g6, g7, g8, Nat.reduceEqDiff, Nat.reduceAdd, false_and, and_false, true_and, and_true, reduceIte, nZ0, nZ1, fun a k => (jτ49 a k).1, fun a k => (jτ49 a k).2]
              refine hQ _ _ ?_ ?_ ?_
              · exact rτ49
              · exact fτ49
              · exact (RecI.fresh hf9 (fun i hi => hg9 i (by omega)) k3 k4)
            · rename_i hc52
              skip
              unfold w_X16_noRecords_55
              try simp only [forall_eq, rII, rIJ, rIP, rJJ, rJI, rJP, rPP, rPI, rPJ, g1, g2, g3, g4, g5, g6, g7, g8, Nat.reduceEqDiff, Nat.reduceAdd, false_and, and_false, true_and, and_true, reduceIte, nZ0, nZ1, fun a k => (jτ49 a k).1, fun a k => (jτ49 a k).2]
              refine ⟨by (first | omega | with_reducible assumption | (unfold rng; omega) | (unfold rng; (repeat' split) <;> omega)), ?_⟩
              refine ⟨by (first | omega | with_reducible assumption | (unfold rng; omega) | (unfold rng; (repeat' split) <;> omega)), ?_⟩
              refine ⟨by (first | omega | with_reducible assumption | (unfold rng; omega) | (unfold rng; (repeat' split) <;> omega)), ?_⟩
              refine ⟨by (first | omega | with_reducible assumption | (unfold rng; omega) | (unfold rng; (repeat' split) <;> omega)), ?_⟩
              refine ih49 _ _ ?_ ?_ ?_ ?_
              · refine Rg.aI g ?_ (by simp only [rgT]; first | with_reducible exact nZ_rng _ | with_reducible exact nB_rng _ | with_reducible exact wr_rng _ | with_reducible exact i32any _ | (first | omega | with_reducible assumption | (unfold rng; omega) | (unfold rng; (repeat' split) <;> omega))); refine Rg.aI g ?_ (by simp only [rgT]; first | with_reducible exact nZ_rng _ | with_reducible exact nB_rng _ | with_reducible exact wr_rng _ | with_reducible exact i32any _ | (first | omega | with_reducible assumption | (unfold rng; omega) | (unfold rng; (repeat' split) <;> omega))); refine Rg.aI g ?_ (by simp only [rgT]; first | with_reducible exact nZ_rng _ | with_reducible exact nB_rng _ | with_reducible exact wr_rng _ | with_reducible exact i32any _ | (first | omega | with_reducible assumption | (unfold rng; omega) | (unfold rng; (repeat' split) <;> omega))); exact rτ49
              · refine Fr.aI g ?_ (by decide); refine Fr.aI g ?_ (by decide); refine Fr.aI g ?_ (by decide); exact fτ49
              · refine ⟨by omega, by omega, ?_, ?_, ?_, ?_⟩ <;> (try simp only [rII, rIJ, rIP, rJJ, rJI, rJP, rPP, rPI, rPJ, g1, g2, g3, g4, g5, g6, g7, g8, Nat.reduceEqDiff, Nat.reduceAdd, false_and, and_false, true_and, and_true, reduceIte, nZ0, nZ1, fun a k => (jτ49 a k).1, fun a k => (jτ49 a k).2]) <;> first | omega | with_reducible assumption | (intro i hi; (try simp only [rII, rIJ, rIP, rJJ, rJI, rJP, rPP, rPI, rPJ, g1, g2, g3, g4, g5, g6, g7, g8, Nat.reduceEqDiff, Nat.reduceAdd, false_and, and_false, true_and, and_true, reduceIte, nZ0, nZ1, fun a k => (jτ49 a k).1, fun a k => (jτ49 a k).2]) <;> first | omega | exact hf9 i (by omega) | (have w9 := hg9 i; refine ⟨?_, ?_, ?_⟩ <;> (split <;> omega)))
              · (try simp only [rII, rIJ, rIP, rJJ, rJI, rJP, rPP, rPI, rPJ, g1, g2, g3, g4, g5, g6, g7, g8, Nat.reduceEqDiff, Nat.reduceAdd, false_and, and_false, true_and, and_true, reduceIte, nZ0, nZ1, fun a k => (jτ49 a k).1, fun a k => (jτ49 a k).2]) <;> (first | omega | with_reducible assumption | (unfold rng; omega) | (unfold rng; (repeat' split) <;> omega))
        refine ⟨_, L49 _ _ _ ?_ ?_ ?_ (Nat.lt_succ_self _)⟩
        · refine Rg.sI g ?_ (by simp only [rgS]; first | with_reducible exact nZ_rng _ | with_reducible exact nB_rng _ | with_reducible exact wr_rng _ | with_reducible exact i32any _ | (first | omega | with_reducible assumption | (unfold rng; omega) | (unfold rng; (repeat' split) <;> omega))); refine Rg.sI g ?_ (by simp only [rgS]; first | with_reducible exact nZ_rng _ | with_reducible exact nB_rng _ | with_reducible exact wr_rng _ | with_reducible exact i32any _ | (first | omega | with_reducible assumption | (unfold rng; omega) | (unfold rng; (repeat' split) <;> omega))); exact rτ2
        · refine Fr.sI g ?_ (by decide); refine Fr.sI g ?_ (by decide); exact fτ2
        · refine ⟨by omega, by omega, ?_, ?_, ?_, ?_⟩ <;> (try simp only [rII, rIJ, rIP, rJJ, rJI, rJP, rPP, rPI, rPJ, g1, g2, g3, g4, g5, g6, g7, g8, Nat.reduceEqDiff, Nat.reduceAdd, false_and, and_false, true_and, and_true, reduceIte, nZ0, nZ1, fun a k => (jτ2 a k).1, fun a k => (jτ2 a k).2]) <;> first | omega | with_reducible assumption | (intro i hi; (try simp only [rII, rIJ, rIP, rJJ, rJI, rJP, rPP, rPI, rPJ, g1, g2, g3, g4, g5, g6, g7, g8, Nat.reduceEqDiff, Nat.reduceAdd, false_and, and_false, true_and, and_true, reduceIte, nZ0, nZ1, fun a k => (jτ2 a k).1, fun a k => (jτ2 a k).2]) <;> first | omega | exact hf9 i (by omega) | (have w9 := hg9 i; refine ⟨?_, ?_, ?_⟩ <;> (split <;> omega)))
      · rename_i hc6
        skip
        unfold w_X16_noRecords_9
        try simp only [forall_eq, rII, rIJ, rIP, rJJ, rJI, rJP, rPP, rPI, rPJ, g1, g2, g3, g4, g5, g6, g7, g8, Nat.reduceEqDiff, Nat.reduceAdd, false_and, and_false, true_and, and_true, reduceIte, nZ0, nZ1, fun a k => (jτ2 a k).1, fun a k => (jτ2 a k).2]
        refine ⟨by (first | omega | with_reducible assumption | (unfold rng; omega) | (unfold rng; (repeat' split) <;> omega)), ?_⟩
        split
        · rename_i hc20
          skip
          unfold w_X16_noRecords_29
          try simp only [forall_eq, rII, rIJ, rIP, rJJ, rJI, rJP, rPP, rPI, rPJ, g1, g2, g3, g4, g5, g6, g7, g8, Nat.reduceEqDiff, Nat.reduceAdd, false_and, and_false, true_and, and_true, reduceIte, nZ0, nZ1, fun a k => (jτ2 a k).1, fun a k => (jτ2 a k).2]
          unfold w_X16_noRecords_30
          try simp only [forall_eq, rII, rIJ, rIP, rJJ, rJI, rJP, rPP, rPI, rPJ, g1, g2, g3, g4, g5, g6, g7, g8, Nat.reduceEqDiff, Nat.reduceAdd, false_and, and_false, true_and, and_true, reduceIte, nZ0, nZ1, fun a k => (jτ2 a k).1, fun a k => (jτ2 a k).2]
          refine ⟨by (first | omega | with_reducible assumption | (unfold rng; omega) | (unfold rng; (repeat' split) <;> omega)), ?_⟩
          refine ⟨by (first | omega | with_reducible assumption | (unfold rng; omega) | (unfold rng; (repeat' split) <;> omega)), ?_⟩
          refine ih2 _ _ ?_ ?_ ?_ ?_
          · refine Rg.aI g ?_ (by simp only [rgT]; first | with_reducible exact nZ_rng _ | with_reducible exact nB_rng _ | with_reducible exact wr_rng _ | with_reducible exact i32any _ | (first | omega | with_reducible assumption | (unfold rng; omega) | (unfold rng; (repeat' split) <;> omega))); exact rτ2
          · refine Fr.aI g ?_ (by decide); exact fτ2
          · refine ⟨?_, ?_, ?_⟩ <;> (first | omega | (intro i hi; (try simp only [rII, rIJ, rIP, rJJ, rJI, rJP, rPP, rPI, rPJ, g1, g2, g3, g4, g5, g6, g7, g8, Nat.reduceEqDiff, Nat.reduceAdd, false_and, and_false, true_and, and_true, reduceIte, nZ0, nZ1, fun a k => (jτ2 a k).1, fun a k => (jτ2 a k).2]) <;> (repeat' split) <;> first | omega | (have w9 := hf9 i; (try simp only [rII, rIJ, rIP, rJJ, rJI, rJP, rPP, rPI, rPJ, g1, g2, g3, g4, g5, g6, g7, g8, Nat.reduceEqDiff, Nat.reduceAdd, false_and, and_false, true_and, and_true, reduceIte, nZ0, nZ1, fun a k => (jτ2 a k).1, fun a k => (jτ2 a k).2] at w9) <;> (repeat' split at w9) <;> omega)))
          · (try simp only [rII, rIJ, rIP, rJJ, rJI, rJP, rPP, rPI, rPJ, g1, g2, g3, g4, g5, g6, g7, g8, Nat.reduceEqDiff, Nat.reduceAdd, false_and, and_false, true_and, and_true, reduceIte, nZ0, nZ1, fun a k => (jτ2 a k).1, fun a k => (jτ2 a k).2]) <;> (first | omega | with_reducible assumption | (unfold rng; omega) | (unfold rng; (repeat' split) <;> omega))
        · rename_i hc20
          skip
          unfold w_X16_noRecords_23
          try simp only [forall_eq, rII, rIJ, rIP, rJJ, rJI, rJP, rPP, rPI, rPJ, g1, g2, g3, g4, g5, g6, g7, g8, Nat.reduceEqDiff, Nat.reduceAdd, false_and, and_false, true_and, and_true, reduceIte, nZ0, nZ1, fun a k => (jτ2 a k).1, fun a k => (jτ2 a k).2]
          refine ⟨by (first | omega | with_reducible assumption | (unfold rng; omega) | (unfold rng; (repeat' split) <;> omega)), ?_⟩
          unfold w_X16_noRecords_30
          try simp only [forall_eq, rII, rIJ, rIP, rJJ, rJI, rJP, rPP, rPI, rPJ, g1, g2, g3, g4, g5, g6, g7, g8, Nat.reduceEqDiff, Nat.reduceAdd, false_and, and_false, true_and, and_true, reduceIte, nZ0, nZ1, fun a k => (jτ2 a k).1, fun a k => (jτ2 a k).2]
          refine ⟨by (first | omega | with_reducible assumption | (unfold rng; omega) | (unfold rng; (repeat' split) <;> omega)), ?_⟩
          refine ⟨by (first | omega | with_reducible assumption | (unfold rng; omega) | (unfold rng; (repeat' split) <;> omega)), ?_⟩
          refine ih2 _ _ ?_ ?_ ?_ ?_
          · refine Rg.aI g ?_ (by simp only [rgT]; first | with_reducible exact nZ_rng _ | with_reducible exact nB_rng _ | with_reducible exact wr_rng _ | with_reducible exact i32any _ | (first | omega | with_reducible assumption | (unfold rng; omega) | (unfold rng; (repeat' split) <;> omega))); exact rτ2
          · refine Fr.aI g ?_ (by decide); exact fτ2
          · refine ⟨?_, ?_, ?_⟩ <;> (first | omega | (intro i hi; (try simp only [rII, rIJ, rIP, rJJ, rJI, rJP, rPP, rPI, rPJ, g1, g2, g3, g4, g5, g6, g7, g8, Nat.reduceEqDiff, Nat.reduceAdd, false_and, and_false, true_and, and_true, reduceIte, nZ0, nZ1, fun a k => (jτ2 a k).1, fun a k => (jτ2 a k).2]) <;> (repeat' split) <;> first | omega | (have w9 := hf9 i; (try simp only [rII, rIJ, rIP, rJJ, rJI, rJP, rPP, rPI, rPJ, g1, g2, g3, g4, g5, g6, g7, g8, Nat.reduceEqDiff, Nat.reduceAdd, false_and, and_false, true_and, and_true, reduceIte, nZ0, nZ1, fun a k => (jτ2 a k).1, fun a k => (jτ2 a k).2] at w9) <;> (repeat' split at w9) <;> omega)))
          · (try simp only [rII, rIJ, rIP, rJJ, rJI, rJP, rPP, rPI, rPJ, g1, g2, g3, g4, g5, g6, g7, g8, Nat.reduceEqDiff, Nat.reduceAdd, false_and, and_false, true_and, and_true, reduceIte, nZ0, nZ1, fun a k => (jτ2 a k).1, fun a k => (jτ2 a k).2]) <;> (first | omega | with_reducible assumption | (unfold rng; omega) | (unfold rng; (repeat' split) <;> omega))
  refine ⟨_, L2 _ _ _ ?_ ?_ ?_ (Nat.lt_succ_self _)⟩
  · exact rσ
  · exact fσ
  · refine ⟨?_, ?_, ?_⟩ <;> (first | omega | (intro i hi; (try simp only [rII, rIJ, rIP, rJJ, rJI, rJP, rPP, rPI, rPJ, g1, g2, g3, g4, g5, g6, g7, g8, Nat.reduceEqDiff, Nat.reduceAdd, false_and, and_false, true_and, and_true, reduceIte, nZ0, nZ1]) <;> (repeat' split) <;> first | omega | (have w9 := hf9 i; (try simp only [rII, rIJ, rIP, rJJ, rJI, rJP, rPP, rPI, rPJ, g1, g2, g3, g4, g5, g6, g7, g8, Nat.reduceEqDiff, Nat.reduceAdd, false_and, and_false, true_and, and_true, reduceIte, nZ0, nZ1] at w9) <;> (repeat' split at w9) <;> omega)))
set_option maxHeartbeats 4000000 in
theorem s_X16_noHeld {ra : Nat → Nat} {jx : Nat → Nat → Nat} {rm : Nat} (g : Geo ra jx rm) {σ : Sg} (rσ : Rg ra jx rm σ) {Q : Sg → Unit → Prop} {X : Sg → String → Prop} (hQ : ∀ (σ' : Sg) (r : Unit), Rg ra jx rm σ' → Fr ra jx rm [86, 87, 88, 89] [90, 91] σ σ' → (HeE ra rm σ') → Q σ' r) : wp_X16_noHeld ra jx rm σ Q X := by
  obtain ⟨g1, g2, g3, g4, g5, g6, g7, g8⟩ := id g
  have fσ : Fr ra jx rm [86, 87, 88, 89] [90, 91] σ σ := Fr.rf
  unfold wp_X16_noHeld
  unfold w_X16_noHeld_0
  try simp only [forall_eq, rII, rIJ, rIP, rJJ, rJI, rJP, rPP, rPI, rPJ, g1, g2, g3, g4, g5, g6, g7, g8, Nat.reduceEqDiff, Nat.reduceAdd, false_and, and_false, true_and, and_true, reduceIte, nZ0, nZ1]
  have L2 : ∀ (fu2 : Nat) (τ2 : Sg) (v1 : Int), Rg ra jx rm τ2 → Fr ra jx rm [86, 87, 88, 89] [90, 91] σ τ2 → (0 ≤ v1 ∧ v1 ≤ 2000 ∧ (∀ i : Nat, (i : Int) < v1 → gI τ2 (ra 86) i = if (i : Int) + 1 < 2000 then (i : Int) + 1 else -1)) → ((2000 - v1).toNat) < fu2 → wl_X16_noHeld_2 ra jx rm Q X fu2 τ2 v1 := by
    intro fu2
    induction fu2 with
    | zero => intro τ2 _ _ _ _ h9; omega
    | succ fu2 ih2 =>
      intro τ2 v1 rτ2 fτ2 hi2 hm2
      unfold wl_X16_noHeld_2
      have jτ2 := fτ2.2.2.1
      unfold w_X16_noHeld_2
      try simp only [forall_eq, rII, rIJ, rIP, rJJ, rJI, rJP, rPP, rPI, rPJ, g1, g2, g3, g4, g5, g6, g7, g8, Nat.reduceEqDiff, Nat.reduceAdd, false_and, and_false, true_and, and_true, reduceIte, nZ0, nZ1, fun a k => (jτ2 a k).1, fun a k => (jτ2 a k).2]
      have hf9 := hi2.2.2
      split
      · rename_i hc6
        skip
        unfold w_X16_noHeld_37
        try simp only [forall_eq, rII, rIJ, rIP, rJJ, rJI, rJP, rPP, rPI, rPJ, g1, g2, g3, g4, g5, g6, g7, g8, Nat.reduceEqDiff, Nat.reduceAdd, false_and, and_false, true_and, and_true, reduceIte, nZ0, nZ1, fun a k => (jτ2 a k).1, fun a k => (jτ2 a k).2]
        have L49 : ∀ (fu49 : Nat) (τ49 : Sg) (v1 : Int), Rg ra jx rm τ49 → Fr ra jx rm [86, 87, 88, 89] [90, 91] σ τ49 → (0 ≤ v1 ∧ v1 ≤ 12 ∧ gI τ49 rm 90 = 0 ∧ gI τ49 rm 91 = 0 ∧ (∀ i : Nat, (i : Int) < 2000 → gI τ49 (ra 86) i = if (i : Int) + 1 < 2000 then (i : Int) + 1 else -1) ∧ (∀ i : Nat, (i : Int) < v1 → gI τ49 (ra 87) i = -1 ∧ gI τ49 (ra 88) i = -1 ∧ gI τ49 (ra 89) i = 0)) → ((12 - v1).toNat) < fu49 → wl_X16_noHeld_49 ra jx rm Q X fu49 τ49 v1 := by
          intro fu49
          induction fu49 with
          | zero => intro τ49 _ _ _ _ h9; omega
          | succ fu49 ih49 =>
            intro τ49 v1 rτ49 fτ49 hi49 hm49
            unfold wl_X16_noHeld_49
            have jτ49 := fτ49.2.2.1
            unfold w_X16_noHeld_49
            try simp only [forall_eq, rII, rIJ, rIP, rJJ, rJI, rJP, rPP, rPI, rPJ, g1, g2, g3, g4, g5, g6, g7, g8, Nat.reduceEqDiff, Nat.reduceAdd, false_and, and_false, true_and, and_true, reduceIte, nZ0, nZ1, fun a k => (jτ49 a k).1, fun a k => (jτ49 a k).2]
            have k3 := hi49.2.2.1; have k4 := hi49.2.2.2.1; have hf9 := hi49.2.2.2.2.1; have hg9 := hi49.2.2.2.2.2; have k1 := hi49.1; have k2 := hi49.2.1; clear hi49
            split
            · rename_i hc52
              skip
              unfold w_X16_noHeld_82
              try simp only [forall_eq, rII, rIJ, rIP, rJJ, rJI, rJP, rPP, rPI, rPJ, g1, g2, g3, g4, g5, g6, g7, g8, Nat.reduceEqDiff, Nat.reduceAdd, false_and, and_false, true_and, and_true, reduceIte, nZ0, nZ1, fun a k => (jτ49 a k).1, fun a k => (jτ49 a k).2]
              refine hQ _ _ ?_ ?_ ?_
              · exact rτ49
              · exact fτ49
              · exact (HeE.fresh hf9 (fun i hi => hg9 i (by omega)) k3 k4)
            · rename_i hc52
              skip
              unfold w_X16_noHeld_55
              try simp only [forall_eq, rII, rIJ, rIP, rJJ, rJI, rJP, rPP, rPI, rPJ, g1, g2, g3, g4, g5, g6, g7, g8, Nat.reduceEqDiff, Nat.reduceAdd, false_and, and_false, true_and, and_true, reduceIte, nZ0, nZ1, fun a k => (jτ49 a k).1, fun a k => (jτ49 a k).2]
              refine ⟨by (first | omega | with_reducible assumption | (unfold rng; omega) | (unfold rng; (repeat' split) <;> omega)), ?_⟩
              refine ⟨by (first | omega | with_reducible assumption | (unfold rng; omega) | (unfold rng; (repeat' split) <;> omega)), ?_⟩
              refine ⟨by (first | omega | with_reducible assumption | (unfold rng; omega) | (unfold rng; (repeat' split) <;> omega)), ?_⟩
              refine ⟨by (first | omega | with_reducible assumption | (unfold rng; omega) | (unfold rng; (repeat' split) <;> omega)), ?_⟩
              refine ih49 _ _ ?_ ?_ ?_ ?_
              · refine Rg.aI g ?_ (by simp only [rgT]; first | with_reducible exact nZ_rng _ | with_reducible exact nB_rng _ | with_reducible exact wr_rng _ | with_reducible exact i32any _ | (first | omega | with_reducible assumption | (unfold rng; omega) | (unfold rng; (repeat' split) <;> omega))); refine Rg.aI g ?_ (by simp only [rgT]; first | with_reducible exact nZ_rng _ | with_reducible exact nB_rng _ | with_reducible exact wr_rng _ | with_reducible exact i32any _ | (first | omega | with_reducible assumption | (unfold rng; omega) | (unfold rng; (repeat' split) <;> omega))); refine Rg.aI g ?_ (by simp only [rgT]; first | with_reducible exact nZ_rng _ | with_reducible exact nB_rng _ | with_reducible exact wr_rng _ | with_reducible exact i32any _ | (first | omega | with_reducible assumption | (unfold rng; omega) | (unfold rng; (repeat' split) <;> omega))); exact rτ49
              · refine Fr.aI g ?_ (by decide); refine Fr.aI g ?_ (by decide); refine Fr.aI g ?_ (by decide); exact fτ49
              · refine ⟨by omega, by omega, ?_, ?_, ?_, ?_⟩ <;> (try simp only [rII, rIJ, rIP, rJJ, rJI, rJP, rPP, rPI, rPJ, g1, g2, g3, g4, g5, g6, g7, g8, Nat.reduceEqDiff, Nat.reduceAdd, false_and, and_false, true_and, and_true, reduceIte, nZ0, nZ1, fun a k => (jτ49 a k).1, fun a k => (jτ49 a k).2]) <;> first | omega | with_reducible assumption | (intro i hi; (try simp only [rII, rIJ, rIP, rJJ, rJI, rJP, rPP, rPI, rPJ, g1, g2, g3, g4, g5, g6, g7, g8, Nat.reduceEqDiff, Nat.reduceAdd, false_and, and_false, true_and, and_true, reduceIte, nZ0, nZ1, fun a k => (jτ49 a k).1, fun a k => (jτ49 a k).2]) <;> first | omega | exact hf9 i (by omega) | (have w9 := hg9 i; refine ⟨?_, ?_, ?_⟩ <;> (split <;> omega)))
              · (try simp only [rII, rIJ, rIP, rJJ, rJI, rJP, rPP, rPI, rPJ, g1, g2, g3, g4, g5, g6, g7, g8, Nat.reduceEqDiff, Nat.reduceAdd, false_and, and_false, true_and, and_true, reduceIte, nZ0, nZ1, fun a k => (jτ49 a k).1, fun a k => (jτ49 a k).2]) <;> (first | omega | with_reducible assumption | (unfold rng; omega) | (unfold rng; (repeat' split) <;> omega))
        refine ⟨_, L49 _ _ _ ?_ ?_ ?_ (Nat.lt_succ_self _)⟩
        · refine Rg.sI g ?_ (by simp only [rgS]; first | with_reducible exact nZ_rng _ | with_reducible exact nB_rng _ | with_reducible exact wr_rng _ | with_reducible exact i32any _ | (first | omega | with_reducible assumption | (unfold rng; omega) | (unfold rng; (repeat' split) <;> omega))); refine Rg.sI g ?_ (by simp only [rgS]; first | with_reducible exact nZ_rng _ | with_reducible exact nB_rng _ | with_reducible exact wr_rng _ | with_reducible exact i32any _ | (first | omega | with_reducible assumption | (unfold rng; omega) | (unfold rng; (repeat' split) <;> omega))); exact rτ2
        · refine Fr.sI g ?_ (by decide); refine Fr.sI g ?_ (by decide); exact fτ2
        · refine ⟨by omega, by omega, ?_, ?_, ?_, ?_⟩ <;> (try simp only [rII, rIJ, rIP, rJJ, rJI, rJP, rPP, rPI, rPJ, g1, g2, g3, g4, g5, g6, g7, g8, Nat.reduceEqDiff, Nat.reduceAdd, false_and, and_false, true_and, and_true, reduceIte, nZ0, nZ1, fun a k => (jτ2 a k).1, fun a k => (jτ2 a k).2]) <;> first | omega | with_reducible assumption | (intro i hi; (try simp only [rII, rIJ, rIP, rJJ, rJI, rJP, rPP, rPI, rPJ, g1, g2, g3, g4, g5, g6, g7, g8, Nat.reduceEqDiff, Nat.reduceAdd, false_and, and_false, true_and, and_true, reduceIte, nZ0, nZ1, fun a k => (jτ2 a k).1, fun a k => (jτ2 a k).2]) <;> first | omega | exact hf9 i (by omega) | (have w9 := hg9 i; refine ⟨?_, ?_, ?_⟩ <;> (split <;> omega)))
      · rename_i hc6
        skip
        unfold w_X16_noHeld_9
        try simp only [forall_eq, rII, rIJ, rIP, rJJ, rJI, rJP, rPP, rPI, rPJ, g1, g2, g3, g4, g5, g6, g7, g8, Nat.reduceEqDiff, Nat.reduceAdd, false_and, and_false, true_and, and_true, reduceIte, nZ0, nZ1, fun a k => (jτ2 a k).1, fun a k => (jτ2 a k).2]
        refine ⟨by (first | omega | with_reducible assumption | (unfold rng; omega) | (unfold rng; (repeat' split) <;> omega)), ?_⟩
        split
        · rename_i hc20
          skip
          unfold w_X16_noHeld_29
          try simp only [forall_eq, rII, rIJ, rIP, rJJ, rJI, rJP, rPP, rPI, rPJ, g1, g2, g3, g4, g5, g6, g7, g8, Nat.reduceEqDiff, Nat.reduceAdd, false_and, and_false, true_and, and_true, reduceIte, nZ0, nZ1, fun a k => (jτ2 a k).1, fun a k => (jτ2 a k).2]
          unfold w_X16_noHeld_30
          try simp only [forall_eq, rII, rIJ, rIP, rJJ, rJI, rJP, rPP, rPI, rPJ, g1, g2, g3, g4, g5, g6, g7, g8, Nat.reduceEqDiff, Nat.reduceAdd, false_and, and_false, true_and, and_true, reduceIte, nZ0, nZ1, fun a k => (jτ2 a k).1, fun a k => (jτ2 a k).2]
          refine ⟨by (first | omega | with_reducible assumption | (unfold rng; omega) | (unfold rng; (repeat' split) <;> omega)), ?_⟩
          refine ⟨by (first | omega | with_reducible assumption | (unfold rng; omega) | (unfold rng; (repeat' split) <;> omega)), ?_⟩
          refine ih2 _ _ ?_ ?_ ?_ ?_
          · refine Rg.aI g ?_ (by simp only [rgT]; first | with_reducible exact nZ_rng _ | with_reducible exact nB_rng _ | with_reducible exact wr_rng _ | with_reducible exact i32any _ | (first | omega | with_reducible assumption | (unfold rng; omega) | (unfold rng; (repeat' split) <;> omega))); exact rτ2
          · refine Fr.aI g ?_ (by decide); exact fτ2
          · refine ⟨?_, ?_, ?_⟩ <;> (first | omega | (intro i hi; (try simp only [rII, rIJ, rIP, rJJ, rJI, rJP, rPP, rPI, rPJ, g1, g2, g3, g4, g5, g6, g7, g8, Nat.reduceEqDiff, Nat.reduceAdd, false_and, and_false, true_and, and_true, reduceIte, nZ0, nZ1, fun a k => (jτ2 a k).1, fun a k => (jτ2 a k).2]) <;> (repeat' split) <;> first | omega | (have w9 := hf9 i; (try simp only [rII, rIJ, rIP, rJJ, rJI, rJP, rPP, rPI, rPJ, g1, g2, g3, g4, g5, g6, g7, g8, Nat.reduceEqDiff, Nat.reduceAdd, false_and, and_false, true_and, and_true, reduceIte, nZ0, nZ1, fun a k => (jτ2 a k).1, fun a k => (jτ2 a k).2] at w9) <;> (repeat' split at w9) <;> omega)))
          · (try simp only [rII, rIJ, rIP, rJJ, rJI, rJP, rPP, rPI, rPJ, g1, g2, g3, g4, g5, g6, g7, g8, Nat.reduceEqDiff, Nat.reduceAdd, false_and, and_false, true_and, and_true, reduceIte, nZ0, nZ1, fun a k => (jτ2 a k).1, fun a k => (jτ2 a k).2]) <;> (first | omega | with_reducible assumption | (unfold rng; omega) | (unfold rng; (repeat' split) <;> omega))
        · rename_i hc20
          skip
          unfold w_X16_noHeld_23
          try simp only [forall_eq, rII, rIJ, rIP, rJJ, rJI, rJP, rPP, rPI, rPJ, g1, g2, g3, g4, g5, g6, g7, g8, Nat.reduceEqDiff, Nat.reduceAdd, false_and, and_false, true_and, and_true, reduceIte, nZ0, nZ1, fun a k => (jτ2 a k).1, fun a k => (jτ2 a k).2]
          refine ⟨by (first | omega | with_reducible assumption | (unfold rng; omega) | (unfold rng; (repeat' split) <;> omega)), ?_⟩
          unfold w_X16_noHeld_30
          try simp only [forall_eq, rII, rIJ, rIP, rJJ, rJI, rJP, rPP, rPI, rPJ, g1, g2, g3, g4, g5, g6, g7, g8, Nat.reduceEqDiff, Nat.reduceAdd, false_and, and_false, true_and, and_true, reduceIte, nZ0, nZ1, fun a k => (jτ2 a k).1, fun a k => (jτ2 a k).2]
          refine ⟨by (first | omega | with_reducible assumption | (unfold rng; omega) | (unfold rng; (repeat' split) <;> omega)), ?_⟩
          refine ⟨by (first | omega | with_reducible assumption | (unfold rng; omega) | (unfold rng; (repeat' split) <;> omega)), ?_⟩
          refine ih2 _ _ ?_ ?_ ?_ ?_
          · refine Rg.aI g ?_ (by simp only [rgT]; first | with_reducible exact nZ_rng _ | with_reducible exact nB_rng _ | with_reducible exact wr_rng _ | with_reducible exact i32any _ | (first | omega | with_reducible assumption | (unfold rng; omega) | (unfold rng; (repeat' split) <;> omega))); exact rτ2
          · refine Fr.aI g ?_ (by decide); exact fτ2
          · refine ⟨?_, ?_, ?_⟩ <;> (first | omega | (intro i hi; (try simp only [rII, rIJ, rIP, rJJ, rJI, rJP, rPP, rPI, rPJ, g1, g2, g3, g4, g5, g6, g7, g8, Nat.reduceEqDiff, Nat.reduceAdd, false_and, and_false, true_and, and_true, reduceIte, nZ0, nZ1, fun a k => (jτ2 a k).1, fun a k => (jτ2 a k).2]) <;> (repeat' split) <;> first | omega | (have w9 := hf9 i; (try simp only [rII, rIJ, rIP, rJJ, rJI, rJP, rPP, rPI, rPJ, g1, g2, g3, g4, g5, g6, g7, g8, Nat.reduceEqDiff, Nat.reduceAdd, false_and, and_false, true_and, and_true, reduceIte, nZ0, nZ1, fun a k => (jτ2 a k).1, fun a k => (jτ2 a k).2] at w9) <;> (repeat' split at w9) <;> omega)))
          · (try simp only [rII, rIJ, rIP, rJJ, rJI, rJP, rPP, rPI, rPJ, g1, g2, g3, g4, g5, g6, g7, g8, Nat.reduceEqDiff, Nat.reduceAdd, false_and, and_false, true_and, and_true, reduceIte, nZ0, nZ1, fun a k => (jτ2 a k).1, fun a k => (jτ2 a k).2]) <;> (first | omega | with_reducible assumption | (unfold rng; omega) | (unfold rng; (repeat' split) <;> omega))
  refine ⟨_, L2 _ _ _ ?_ ?_ ?_ (Nat.lt_succ_self _)⟩
  · exact rσ
  · exact fσ
  · refine ⟨?_, ?_, ?_⟩ <;> (first | omega | (intro i hi; (try simp only [rII, rIJ, rIP, rJJ, rJI, rJP, rPP, rPI, rPJ, g1, g2, g3, g4, g5, g6, g7, g8, Nat.reduceEqDiff, Nat.reduceAdd, false_and, and_false, true_and, and_true, reduceIte, nZ0, nZ1]) <;> (repeat' split) <;> first | omega | (have w9 := hf9 i; (try simp only [rII, rIJ, rIP, rJJ, rJI, rJP, rPP, rPI, rPJ, g1, g2, g3, g4, g5, g6, g7, g8, Nat.reduceEqDiff, Nat.reduceAdd, false_and, and_false, true_and, and_true, reduceIte, nZ0, nZ1] at w9) <;> (repeat' split at w9) <;> omega)))
set_option maxHeartbeats 8000000 in
theorem s_X16_empty {ra : Nat → Nat} {jx : Nat → Nat → Nat} {rm : Nat} (g : Geo ra jx rm) {σ : Sg} (rσ : Rg ra jx rm σ) {Q : Sg → Unit → Prop} {X : Sg → String → Prop} (hQ : ∀ (σ' : Sg) (r : Unit), Rg ra jx rm σ' → Fr ra jx rm [40, 41, 42, 43, 44, 45, 46, 47, 48, 49, 54, 55, 56, 57, 58, 65] [66, 67] σ σ' → (ThE ra rm σ' ∧ (∀ i : Nat, (i : Int) < 1100 → gI σ' (ra 54) i = 0) ∧ (∀ i : Nat, (i : Int) < 64 → gI σ' (ra 45) i = -1)) → Q σ' r) : wp_X16_empty ra jx rm σ Q X := by
  obtain ⟨g1, g2, g3, g4, g5, g6, g7, g8⟩ := id g
  have fσ : Fr ra jx rm [40, 41, 42, 43, 44, 45, 46, 47, 48, 49, 54, 55, 56, 57, 58, 65] [66, 67] σ σ := Fr.rf
  unfold wp_X16_empty
  unfold w_X16_empty_0
  try simp only [forall_eq, rII, rIJ, rIP, rJJ, rJI, rJP, rPP, rPI, rPJ, g1, g2, g3, g4, g5, g6, g7, g8, Nat.reduceEqDiff, Nat.reduceAdd, false_and, and_false, true_and, and_true, reduceIte, nZ0, nZ1]
  have L2 : ∀ (fu2 : Nat) (τ2 : Sg) (v1 : Int), Rg ra jx rm τ2 → Fr ra jx rm [40, 41, 42, 43, 44, 45, 46, 47, 48, 49, 54, 55, 56, 57, 58, 65] [66, 67] σ τ2 → (0 ≤ v1 ∧ v1 ≤ 12802 ∧ (∀ i : Nat, (i : Int) < v1 → gI τ2 (ra 65) i = if (i : Int) + 1 < 12802 then (i : Int) + 1 else -1)) → ((12802 - v1).toNat) < fu2 → wl_X16_empty_2 ra jx rm Q X fu2 τ2 v1 := by
    intro fu2
    induction fu2 with
    | zero => intro τ2 _ _ _ _ h9; omega
    | succ fu2 ih2 =>
      intro τ2 v1 rτ2 fτ2 hi2 hm2
      unfold wl_X16_empty_2
      have jτ2 := fτ2.2.2.1
      unfold w_X16_empty_2
      try simp only [forall_eq, rII, rIJ, rIP, rJJ, rJI, rJP, rPP, rPI, rPJ, g1, g2, g3, g4, g5, g6, g7, g8, Nat.reduceEqDiff, Nat.reduceAdd, false_and, and_false, true_and, and_true, reduceIte, nZ0, nZ1, fun a k => (jτ2 a k).1, fun a k => (jτ2 a k).2]
      have hf9 := hi2.2.2
      split
      · rename_i hc6
        skip
        unfold w_X16_empty_37
        try simp only [forall_eq, rII, rIJ, rIP, rJJ, rJI, rJP, rPP, rPI, rPJ, g1, g2, g3, g4, g5, g6, g7, g8, Nat.reduceEqDiff, Nat.reduceAdd, false_and, and_false, true_and, and_true, reduceIte, nZ0, nZ1, fun a k => (jτ2 a k).1, fun a k => (jτ2 a k).2]
        have L49 : ∀ (fu49 : Nat) (τ49 : Sg) (v1 : Int), Rg ra jx rm τ49 → Fr ra jx rm [40, 41, 42, 43, 44, 45, 46, 47, 48, 49, 54, 55, 56, 57, 58, 65] [66, 67] σ τ49 → (0 ≤ v1 ∧ v1 ≤ 64 ∧ gI τ49 rm 66 = 0 ∧ gI τ49 rm 67 = 0 ∧ (∀ i : Nat, (i : Int) < 12802 → gI τ49 (ra 65) i = if (i : Int) + 1 < 12802 then (i : Int) + 1 else -1) ∧ (∀ i : Nat, (i : Int) < v1 → gI τ49 (ra 46) i = -1 ∧ gI τ49 (ra 47) i = -1 ∧ gI τ49 (ra 45) i = -1)) → ((64 - v1).toNat) < fu49 → wl_X16_empty_49 ra jx rm Q X fu49 τ49 v1 := by
          intro fu49
          induction fu49 with
          | zero => intro τ49 _ _ _ _ h9; omega
          | succ fu49 ih49 =>
            intro τ49 v1 rτ49 fτ49 hi49 hm49
            unfold wl_X16_empty_49
            have jτ49 := fτ49.2.2.1
            unfold w_X16_empty_49
            try simp only [forall_eq, rII, rIJ, rIP, rJJ, rJI, rJP, rPP, rPI, rPJ, g1, g2, g3, g4, g5, g6, g7, g8, Nat.reduceEqDiff, Nat.reduceAdd, false_and, and_false, true_and, and_true, reduceIte, nZ0, nZ1, fun a k => (jτ49 a k).1, fun a k => (jτ49 a k).2]
            have k3 := hi49.2.2.1; have k4 := hi49.2.2.2.1; have hf9 := hi49.2.2.2.2.1; have k1 := hi49.1; have k2 := hi49.2.1
            have hg9 := hi49.2.2.2.2.2
            clear hi49
            split
            · rename_i hc52
              skip
              unfold w_X16_empty_126
              try simp only [forall_eq, rII, rIJ, rIP, rJJ, rJI, rJP, rPP, rPI, rPJ, g1, g2, g3, g4, g5, g6, g7, g8, Nat.reduceEqDiff, Nat.reduceAdd, false_and, and_false, true_and, and_true, reduceIte, nZ0, nZ1, fun a k => (jτ49 a k).1, fun a k => (jτ49 a k).2]
              have L128 : ∀ (fu128 : Nat) (τ128 : Sg) (v1 : Int), Rg ra jx rm τ128 → Fr ra jx rm [40, 41, 42, 43, 44, 45, 46, 47, 48, 49, 54, 55, 56, 57, 58, 65] [66, 67] σ τ128 → (0 ≤ v1 ∧ v1 ≤ 32 ∧ gI τ128 rm 66 = 0 ∧ gI τ128 rm 67 = 0 ∧ (∀ i : Nat, (i : Int) < 12802 → gI τ128 (ra 65) i = if (i : Int) + 1 < 12802 then (i : Int) + 1 else -1) ∧ (∀ i : Nat, (i : Int) < 64 → gI τ128 (ra 46) i = -1 ∧ gI τ128 (ra 47) i = -1 ∧ gI τ128 (ra 45) i = -1)) → ((32 - v1).toNat) < fu128 → wl_X16_empty_128 ra jx rm Q X fu128 τ128 v1 := by
                intro fu128
                induction fu128 with
                | zero => intro τ128 _ _ _ _ h9; omega
                | succ fu128 ih128 =>
                  intro τ128 v1 rτ128 fτ128 hi128 hm128
                  unfold wl_X16_empty_128
                  have jτ128 := fτ128.2.2.1
                  unfold w_X16_empty_128
                  try simp only [forall_eq, rII, rIJ, rIP, rJJ, rJI, rJP, rPP, rPI, rPJ, g1, g2, g3, g4, g5, g6, g7, g8, Nat.reduceEqDiff, Nat.reduceAdd, false_and, and_false, true_and, and_true, reduceIte, nZ0, nZ1, fun a k => (jτ128 a k).1, fun a k => (jτ128 a k).2]
                  have k3 := hi128.2.2.1; have k4 := hi128.2.2.2.1; have hf9 := hi128.2.2.2.2.1; have k1 := hi128.1; have k2 := hi128.2.1
                  have hg9 := hi128.2.2.2.2.2
                  clear hi128
                  split
                  · rename_i hc131
                    skip
                    unfold w_X16_empty_147
                    try simp only [forall_eq, rII, rIJ, rIP, rJJ, rJI, rJP, rPP, rPI, rPJ, g1, g2, g3, g4, g5, g6, g7, g8, Nat.reduceEqDiff, Nat.reduceAdd, false_and, and_false, true_and, and_true, reduceIte, nZ0, nZ1, fun a k => (jτ128 a k).1, fun a k => (jτ128 a k).2]
                    have L149 : ∀ (fu149 : Nat) (τ149 : Sg) (v1 : Int), Rg ra jx rm τ149 → Fr ra jx rm [40, 41, 42, 43, 44, 45, 46, 47, 48, 49, 54, 55, 56, 57, 58, 65] [66, 67] σ τ149 → (0 ≤ v1 ∧ v1 ≤ 1100 ∧ gI τ149 rm 66 = 0 ∧ gI τ149 rm 67 = 0 ∧ (∀ i : Nat, (i : Int) < 12802 → gI τ149 (ra 65) i = if (i : Int) + 1 < 12802 then (i : Int) + 1 else -1) ∧ (∀ i : Nat, (i : Int) < 64 → gI τ149 (ra 46) i = -1 ∧ gI τ149 (ra 47) i = -1 ∧ gI τ149 (ra 45) i = -1) ∧ (∀ i : Nat, (i : Int) < v1 → gI τ149 (ra 54) i = 0)) → ((1100 - v1).toNat) < fu149 → wl_X16_empty_149 ra jx rm Q X fu149 τ149 v1 := by
                      intro fu149
                      induction fu149 with
                      | zero => intro τ149 _ _ _ _ h9; omega
                      | succ fu149 ih149 =>
                        intro τ149 v1 rτ149 fτ149 hi149 hm149
                        unfold wl_X16_empty_149
                        have jτ149 := fτ149.2.2.1
                        unfold w_X16_empty_149
                        try simp only [forall_eq, rII, rIJ, rIP, rJJ, rJI, rJP, rPP, rPI, rPJ, g1, g2, g3, g4, g5, g6, g7, g8, Nat.reduceEqDiff, Nat.reduceAdd, false_and, and_false, true_and, and_true, reduceIte, nZ0, nZ1, fun a k => (jτ149 a k).1, fun a k => (jτ149 a k).2]
                        have k3 := hi149.2.2.1; have k4 := hi149.2.2.2.1; have hf9 := hi149.2.2.2.2.1; have k1 := hi149.1; have k2 := hi149.2.1
                        have hg9 := hi149.2.2.2.2.2.1; have hh9 := hi149.2.2.2.2.2.2
                        clear hi149
                        split
                        · rename_i hc153
                          skip
                          unfold w_X16_empty_199
                          try simp only [forall_eq, rII, rIJ, rIP, rJJ, rJI, rJP, rPP, rPI, rPJ, g1, g2, g3, g4, g5, g6, g7, g8, Nat.reduceEqDiff, Nat.reduceAdd, false_and, and_false, true_and, and_true, reduceIte, nZ0, nZ1, fun a k => (jτ149 a k).1, fun a k => (jτ149 a k).2]
                          refine hQ _ _ ?_ ?_ ?_
                          · exact rτ149
                          · exact fτ149
                          · exact ⟨ThE.fresh hf9 (fun i hi => ⟨(hg9 i hi).1, (hg9 i hi).2.1⟩) k3 k4 (fun i hi => hh9 i (by omega)), fun i hi => hh9 i (by omega), fun i hi => (hg9 i hi).2.2⟩
                        · rename_i hc153
                          skip
                          unfold w_X16_empty_156
                          try simp only [forall_eq, rII, rIJ, rIP, rJJ, rJI, rJP, rPP, rPI, rPJ, g1, g2, g3, g4, g5, g6, g7, g8, Nat.reduceEqDiff, Nat.reduceAdd, false_and, and_false, true_and, and_true, reduceIte, nZ0, nZ1, fun a k => (jτ149 a k).1, fun a k => (jτ149 a k).2]
                          refine ⟨by (first | omega | with_reducible assumption | (unfold rng; omega) | (unfold rng; (repeat' split) <;> omega)), ?_⟩
                          refine ⟨by (first | omega | with_reducible assumption | (unfold rng; omega) | (unfold rng; (repeat' split) <;> omega)), ?_⟩
                          refine ⟨by (first | omega | with_reducible assumption | (unfold rng; omega) | (unfold rng; (repeat' split) <;> omega)), ?_⟩
                          refine ⟨by (first | omega | with_reducible assumption | (unfold rng; omega) | (unfold rng; (repeat' split) <;> omega)), ?_⟩
                          refine ⟨by (first | omega | with_reducible assumption | (unfold rng; omega) | (unfold rng; (repeat' split) <;> omega)), ?_⟩
                          refine ⟨by (first | omega | with_reducible assumption | (unfold rng; omega) | (unfold rng; (repeat' split) <;> omega)), ?_⟩
                          refine ih149 _ _ ?_ ?_ ?_ ?_
                          · refine Rg.aJ g ?_ (by simp only [rlT]; first | with_reducible assumption | omega | exact Int64.toInt_le _ | (rw [Int64.toInt_ofInt_of_le (by omega) (by omega)]; omega) | grind); refine Rg.aI g ?_ (by simp only [rgT]; first | with_reducible exact nZ_rng _ | with_reducible exact nB_rng _ | with_reducible exact wr_rng _ | with_reducible exact i32any _ | (first | omega | with_reducible assumption | (unfold rng; omega) | (unfold rng; (repeat' split) <;> omega))); refine Rg.aJ g ?_ (by simp only [rlT]; first | with_reducible assumption | omega | exact Int64.toInt_le _ | (rw [Int64.toInt_ofInt_of_le (by omega) (by omega)]; omega) | grind); refine Rg.aI g ?_ (by simp only [rgT]; first | with_reducible exact nZ_rng _ | with_reducible exact nB_rng _ | with_reducible exact wr_rng _ | with_reducible exact i32any _ | (first | omega | with_reducible assumption | (unfold rng; omega) | (unfold rng; (repeat' split) <;> omega))); refine Rg.aI g ?_ (by simp only [rgT]; first | with_reducible exact nZ_rng _ | with_reducible exact nB_rng _ | with_reducible exact wr_rng _ | with_reducible exact i32any _ | (first | omega | with_reducible assumption | (unfold rng; omega) | (unfold rng; (repeat' split) <;> omega))); exact rτ149
                          · refine Fr.aJ g ?_ (by decide); refine Fr.aI g ?_ (by decide); refine Fr.aJ g ?_ (by decide); refine Fr.aI g ?_ (by decide); refine Fr.aI g ?_ (by decide); exact fτ149
                          · refine ⟨by omega, by omega, ?_, ?_, ?_, ?_, ?_⟩ <;> (try simp only [rII, rIJ, rIP, rJJ, rJI, rJP, rPP, rPI, rPJ, g1, g2, g3, g4, g5, g6, g7, g8, Nat.reduceEqDiff, Nat.reduceAdd, false_and, and_false, true_and, and_true, reduceIte, nZ0, nZ1, fun a k => (jτ149 a k).1, fun a k => (jτ149 a k).2]) <;> first | omega | with_reducible assumption | (intro i hi; (try simp only [rII, rIJ, rIP, rJJ, rJI, rJP, rPP, rPI, rPJ, g1, g2, g3, g4, g5, g6, g7, g8, Nat.reduceEqDiff, Nat.reduceAdd, false_and, and_false, true_and, and_true, reduceIte, nZ0, nZ1, fun a k => (jτ149 a k).1, fun a k => (jτ149 a k).2]) <;> first | omega | exact hf9 i (by omega) | exact hg9 i (by omega) | exact hh9 i (by omega) | (have w9 := hg9 i; refine ⟨?_, ?_, ?_⟩ <;> (split <;> omega)) | (have w9 := hh9 i; split <;> omega))
                          · (try simp only [rII, rIJ, rIP, rJJ, rJI, rJP, rPP, rPI, rPJ, g1, g2, g3, g4, g5, g6, g7, g8, Nat.reduceEqDiff, Nat.reduceAdd, false_and, and_false, true_and, and_true, reduceIte, nZ0, nZ1, fun a k => (jτ149 a k).1, fun a k => (jτ149 a k).2]) <;> (first | omega | with_reducible assumption | (unfold rng; omega) | (unfold rng; (repeat' split) <;> omega))
                    refine ⟨_, L149 _ _ _ ?_ ?_ ?_ (Nat.lt_succ_self _)⟩
                    · exact rτ128
                    · exact fτ128
                    · refine ⟨by omega, by omega, ?_, ?_, ?_, ?_, ?_⟩ <;> (try simp only [rII, rIJ, rIP, rJJ, rJI, rJP, rPP, rPI, rPJ, g1, g2, g3, g4, g5, g6, g7, g8, Nat.reduceEqDiff, Nat.reduceAdd, false_and, and_false, true_and, and_true, reduceIte, nZ0, nZ1, fun a k => (jτ128 a k).1, fun a k => (jτ128 a k).2]) <;> first | omega | with_reducible assumption | (intro i hi; (try simp only [rII, rIJ, rIP, rJJ, rJI, rJP, rPP, rPI, rPJ, g1, g2, g3, g4, g5, g6, g7, g8, Nat.reduceEqDiff, Nat.reduceAdd, false_and, and_false, true_and, and_true, reduceIte, nZ0, nZ1, fun a k => (jτ128 a k).1, fun a k => (jτ128 a k).2]) <;> first | omega | exact hf9 i (by omega) | exact hg9 i (by omega) | exact hh9 i (by omega) | (have w9 := hg9 i; refine ⟨?_, ?_, ?_⟩ <;> (split <;> omega)) | (have w9 := hh9 i; split <;> omega))
                  · rename_i hc131
                    skip
                    unfold w_X16_empty_134
                    try simp only [forall_eq, rII, rIJ, rIP, rJJ, rJI, rJP, rPP, rPI, rPJ, g1, g2, g3, g4, g5, g6, g7, g8, Nat.reduceEqDiff, Nat.reduceAdd, false_and, and_false, true_and, and_true, reduceIte, nZ0, nZ1, fun a k => (jτ128 a k).1, fun a k => (jτ128 a k).2]
                    refine ⟨by (first | omega | with_reducible assumption | (unfold rng; omega) | (unfold rng; (repeat' split) <;> omega)), ?_⟩
                    refine ⟨by (first | omega | with_reducible assumption | (unfold rng; omega) | (unfold rng; (repeat' split) <;> omega)), ?_⟩
                    refine ih128 _ _ ?_ ?_ ?_ ?_
                    · refine Rg.aJ g ?_ (by simp only [rlT]; first | with_reducible assumption | omega | exact Int64.toInt_le _ | (rw [Int64.toInt_ofInt_of_le (by omega) (by omega)]; omega) | grind); exact rτ128
                    · refine Fr.aJ g ?_ (by decide); exact fτ128
                    · refine ⟨by omega, by omega, ?_, ?_, ?_, ?_⟩ <;> (try simp only [rII, rIJ, rIP, rJJ, rJI, rJP, rPP, rPI, rPJ, g1, g2, g3, g4, g5, g6, g7, g8, Nat.reduceEqDiff, Nat.reduceAdd, false_and, and_false, true_and, and_true, reduceIte, nZ0, nZ1, fun a k => (jτ128 a k).1, fun a k => (jτ128 a k).2]) <;> first | omega | with_reducible assumption | (intro i hi; (try simp only [rII, rIJ, rIP, rJJ, rJI, rJP, rPP, rPI, rPJ, g1, g2, g3, g4, g5, g6, g7, g8, Nat.reduceEqDiff, Nat.reduceAdd, false_and, and_false, true_and, and_true, reduceIte, nZ0, nZ1, fun a k => (jτ128 a k).1, fun a k => (jτ128 a k).2]) <;> first | omega | exact hf9 i (by omega) | exact hg9 i (by omega) | exact hh9 i (by omega) | (have w9 := hg9 i; refine ⟨?_, ?_, ?_⟩ <;> (split <;> omega)) | (have w9 := hh9 i; split <;> omega))
                    · (try simp only [rII, rIJ, rIP, rJJ, rJI, rJP, rPP, rPI, rPJ, g1, g2, g3, g4, g5, g6, g7, g8, Nat.reduceEqDiff, Nat.reduceAdd, false_and, and_false, true_and, and_true, reduceIte, nZ0, nZ1, fun a k => (jτ128 a k).1, fun a k => (jτ128 a k).2]) <;> (first | omega | with_reducible assumption | (unfold rng; omega) | (unfold rng; (repeat' split) <;> omega))
              refine ⟨_, L128 _ _ _ ?_ ?_ ?_ (Nat.lt_succ_self _)⟩
              · exact rτ49
              · exact fτ49
              · refine ⟨by omega, by omega, ?_, ?_, ?_, ?_⟩ <;> (try simp only [rII, rIJ, rIP, rJJ, rJI, rJP, rPP, rPI, rPJ, g1, g2, g3, g4, g5, g6, g7, g8, Nat.reduceEqDiff, Nat.reduceAdd, false_and, and_false, true_and, and_true, reduceIte, nZ0, nZ1, fun a k => (jτ49 a k).1, fun a k => (jτ49 a k).2]) <;> first | omega | with_reducible assumption | (intro i hi; (try simp only [rII, rIJ, rIP, rJJ, rJI, rJP, rPP, rPI, rPJ, g1, g2, g3, g4, g5, g6, g7, g8, Nat.reduceEqDiff, Nat.reduceAdd, false_and, and_false, true_and, and_true, reduceIte, nZ0, nZ1, fun a k => (jτ49 a k).1, fun a k => (jτ49 a k).2]) <;> first | omega | exact hf9 i (by omega) | exact hg9 i (by omega) | exact hh9 i (by omega) | (have w9 := hg9 i; refine ⟨?_, ?_, ?_⟩ <;> (split <;> omega)) | (have w9 := hh9 i; split <;> omega))
            · rename_i hc52
              skip
              unfold w_X16_empty_55
              try simp only [forall_eq, rII, rIJ, rIP, rJJ, rJI, rJP, rPP, rPI, rPJ, g1, g2, g3, g4, g5, g6, g7, g8, Nat.reduceEqDiff, Nat.reduceAdd, false_and, and_false, true_and, and_true, reduceIte, nZ0, nZ1, fun a k => (jτ49 a k).1, fun a k => (jτ49 a k).2]
              refine ⟨by (first | omega | with_reducible assumption | (unfold rng; omega) | (unfold rng; (repeat' split) <;> omega)), ?_⟩
              refine ⟨by (first | omega | with_reducible assumption | (unfold rng; omega) | (unfold rng; (repeat' split) <;> omega)), ?_⟩
              refine ⟨by (first | omega | with_reducible assumption | (unfold rng; omega) | (unfold rng; (repeat' split) <;> omega)), ?_⟩
              refine ⟨by (first | omega | with_reducible assumption | (unfold rng; omega) | (unfold rng; (repeat' split) <;> omega)), ?_⟩
              refine ⟨by (first | omega | with_reducible assumption | (unfold rng; omega) | (unfold rng; (repeat' split) <;> omega)), ?_⟩
              refine ⟨by (first | omega | with_reducible assumption | (unfold rng; omega) | (unfold rng; (repeat' split) <;> omega)), ?_⟩
              refine ⟨by (first | omega | with_reducible assumption | (unfold rng; omega) | (unfold rng; (repeat' split) <;> omega)), ?_⟩
              refine ⟨by (first | omega | with_reducible assumption | (unfold rng; omega) | (unfold rng; (repeat' split) <;> omega)), ?_⟩
              refine ⟨by (first | omega | with_reducible assumption | (unfold rng; omega) | (unfold rng; (repeat' split) <;> omega)), ?_⟩
              refine ⟨by (first | omega | with_reducible assumption | (unfold rng; omega) | (unfold rng; (repeat' split) <;> omega)), ?_⟩
              refine ih49 _ _ ?_ ?_ ?_ ?_
              · refine Rg.aI g ?_ (by simp only [rgT]; first | with_reducible exact nZ_rng _ | with_reducible exact nB_rng _ | with_reducible exact wr_rng _ | with_reducible exact i32any _ | (first | omega | with_reducible assumption | (unfold rng; omega) | (unfold rng; (repeat' split) <;> omega))); refine Rg.aI g ?_ (by simp only [rgT]; first | with_reducible exact nZ_rng _ | with_reducible exact nB_rng _ | with_reducible exact wr_rng _ | with_reducible exact i32any _ | (first | omega | with_reducible assumption | (unfold rng; omega) | (unfold rng; (repeat' split) <;> omega))); refine Rg.aI g ?_ (by simp only [rgT]; first | with_reducible exact nZ_rng _ | with_reducible exact nB_rng _ | with_reducible exact wr_rng _ | with_reducible exact i32any _ | (first | omega | with_reducible assumption | (unfold rng; omega) | (unfold rng; (repeat' split) <;> omega))); refine Rg.aI g ?_ (by simp only [rgT]; first | with_reducible exact nZ_rng _ | with_reducible exact nB_rng _ | with_reducible exact wr_rng _ | with_reducible exact i32any _ | (first | omega | with_reducible assumption | (unfold rng; omega) | (unfold rng; (repeat' split) <;> omega))); refine Rg.aI g ?_ (by simp only [rgT]; first | with_reducible exact nZ_rng _ | with_reducible exact nB_rng _ | with_reducible exact wr_rng _ | with_reducible exact i32any _ | (first | omega | with_reducible assumption | (unfold rng; omega) | (unfold rng; (repeat' split) <;> omega))); refine Rg.aI g ?_ (by simp only [rgT]; first | with_reducible exact nZ_rng _ | with_reducible exact nB_rng _ | with_reducible exact wr_rng _ | with_reducible exact i32any _ | (first | omega | with_reducible assumption | (unfold rng; omega) | (unfold rng; (repeat' split) <;> omega))); refine Rg.aI g ?_ (by simp only [rgT]; first | with_reducible exact nZ_rng _ | with_reducible exact nB_rng _ | with_reducible exact wr_rng _ | with_reducible exact i32any _ | (first | omega | with_reducible assumption | (unfold rng; omega) | (unfold rng; (repeat' split) <;> omega))); refine Rg.aI g ?_ (by simp only [rgT]; first | with_reducible exact nZ_rng _ | with_reducible exact nB_rng _ | with_reducible exact wr_rng _ | with_reducible exact i32any _ | (first | omega | with_reducible assumption | (unfold rng; omega) | (unfold rng; (repeat' split) <;> omega))); refine Rg.aJ g ?_ (by simp only [rlT]; first | with_reducible assumption | omega | exact Int64.toInt_le _ | (rw [Int64.toInt_ofInt_of_le (by omega) (by omega)]; omega) | grind); exact rτ49
              · refine Fr.aI g ?_ (by decide); refine Fr.aI g ?_ (by decide); refine Fr.aI g ?_ (by decide); refine Fr.aI g ?_ (by decide); refine Fr.aI g ?_ (by decide); refine Fr.aI g ?_ (by decide); refine Fr.aI g ?_ (by decide); refine Fr.aI g ?_ (by decide); refine Fr.aJ g ?_ (by decide); exact fτ49
              · refine ⟨by omega, by omega, ?_, ?_, ?_, ?_⟩ <;> (try simp only [rII, rIJ, rIP, rJJ, rJI, rJP, rPP, rPI, rPJ, g1, g2, g3, g4, g5, g6, g7, g8, Nat.reduceEqDiff, Nat.reduceAdd, false_and, and_false, true_and, and_true, reduceIte, nZ0, nZ1, fun a k => (jτ49 a k).1, fun a k => (jτ49 a k).2]) <;> first | omega | with_reducible assumption | (intro i hi; (try simp only [rII, rIJ, rIP, rJJ, rJI, rJP, rPP, rPI, rPJ, g1, g2, g3, g4, g5, g6, g7, g8, Nat.reduceEqDiff, Nat.reduceAdd, false_and, and_false, true_and, and_true, reduceIte, nZ0, nZ1, fun a k => (jτ49 a k).1, fun a k => (jτ49 a k).2]) <;> first | omega | exact hf9 i (by omega) | exact hg9 i (by omega) | exact hh9 i (by omega) | (have w9 := hg9 i; refine ⟨?_, ?_, ?_⟩ <;> (split <;> omega)) | (have w9 := hh9 i; split <;> omega))
              · (try simp only [rII, rIJ, rIP, rJJ, rJI, rJP, rPP, rPI, rPJ, g1, g2, g3, g4, g5, g6, g7, g8, Nat.reduceEqDiff, Nat.reduceAdd, false_and, and_false, true_and, and_true, reduceIte, nZ0, nZ1, fun a k => (jτ49 a k).1, fun a k => (jτ49 a k).2]) <;> (first | omega | with_reducible assumption | (unfold rng; omega) | (unfold rng; (repeat' split) <;> omega))
        refine ⟨_, L49 _ _ _ ?_ ?_ ?_ (Nat.lt_succ_self _)⟩
        · refine Rg.sI g ?_ (by simp only [rgS]; first | with_reducible exact nZ_rng _ | with_reducible exact nB_rng _ | with_reducible exact wr_rng _ | with_reducible exact i32any _ | (first | omega | with_reducible assumption | (unfold rng; omega) | (unfold rng; (repeat' split) <;> omega))); refine Rg.sI g ?_ (by simp only [rgS]; first | with_reducible exact nZ_rng _ | with_reducible exact nB_rng _ | with_reducible exact wr_rng _ | with_reducible exact i32any _ | (first | omega | with_reducible assumption | (unfold rng; omega) | (unfold rng; (repeat' split) <;> omega))); exact rτ2
        · refine Fr.sI g ?_ (by decide); refine Fr.sI g ?_ (by decide); exact fτ2
        · refine ⟨by omega, by omega, ?_, ?_, ?_, ?_⟩ <;> (try simp only [rII, rIJ, rIP, rJJ, rJI, rJP, rPP, rPI, rPJ, g1, g2, g3, g4, g5, g6, g7, g8, Nat.reduceEqDiff, Nat.reduceAdd, false_and, and_false, true_and, and_true, reduceIte, nZ0, nZ1, fun a k => (jτ2 a k).1, fun a k => (jτ2 a k).2]) <;> first | omega | with_reducible assumption | (intro i hi; (try simp only [rII, rIJ, rIP, rJJ, rJI, rJP, rPP, rPI, rPJ, g1, g2, g3, g4, g5, g6, g7, g8, Nat.reduceEqDiff, Nat.reduceAdd, false_and, and_false, true_and, and_true, reduceIte, nZ0, nZ1, fun a k => (jτ2 a k).1, fun a k => (jτ2 a k).2]) <;> first | omega | exact hf9 i (by omega) | exact hg9 i (by omega) | exact hh9 i (by omega) | (have w9 := hg9 i; refine ⟨?_, ?_, ?_⟩ <;> (split <;> omega)) | (have w9 := hh9 i; split <;> omega))
      · rename_i hc6
        skip
        unfold w_X16_empty_9
        try simp only [forall_eq, rII, rIJ, rIP, rJJ, rJI, rJP, rPP, rPI, rPJ, g1, g2, g3, g4, g5, g6, g7, g8, Nat.reduceEqDiff, Nat.reduceAdd, false_and, and_false, true_and, and_true, reduceIte, nZ0, nZ1, fun a k => (jτ2 a k).1, fun a k => (jτ2 a k).2]
        refine ⟨by (first | omega | with_reducible assumption | (unfold rng; omega) | (unfold rng; (repeat' split) <;> omega)), ?_⟩
        split
        · rename_i hc20
          skip
          unfold w_X16_empty_29
          try simp only [forall_eq, rII, rIJ, rIP, rJJ, rJI, rJP, rPP, rPI, rPJ, g1, g2, g3, g4, g5, g6, g7, g8, Nat.reduceEqDiff, Nat.reduceAdd, false_and, and_false, true_and, and_true, reduceIte, nZ0, nZ1, fun a k => (jτ2 a k).1, fun a k => (jτ2 a k).2]
          unfold w_X16_empty_30
          try simp only [forall_eq, rII, rIJ, rIP, rJJ, rJI, rJP, rPP, rPI, rPJ, g1, g2, g3, g4, g5, g6, g7, g8, Nat.reduceEqDiff, Nat.reduceAdd, false_and, and_false, true_and, and_true, reduceIte, nZ0, nZ1, fun a k => (jτ2 a k).1, fun a k => (jτ2 a k).2]
          refine ⟨by (first | omega | with_reducible assumption | (unfold rng; omega) | (unfold rng; (repeat' split) <;> omega)), ?_⟩
          refine ⟨by (first | omega | with_reducible assumption | (unfold rng; omega) | (unfold rng; (repeat' split) <;> omega)), ?_⟩
          refine ih2 _ _ ?_ ?_ ?_ ?_
          · refine Rg.aI g ?_ (by simp only [rgT]; first | with_reducible exact nZ_rng _ | with_reducible exact nB_rng _ | with_reducible exact wr_rng _ | with_reducible exact i32any _ | (first | omega | with_reducible assumption | (unfold rng; omega) | (unfold rng; (repeat' split) <;> omega))); exact rτ2
          · refine Fr.aI g ?_ (by decide); exact fτ2
          · refine ⟨?_, ?_, ?_⟩ <;> (first | omega | (intro i hi; (try simp only [rII, rIJ, rIP, rJJ, rJI, rJP, rPP, rPI, rPJ, g1, g2, g3, g4, g5, g6, g7, g8, Nat.reduceEqDiff, Nat.reduceAdd, false_and, and_false, true_and, and_true, reduceIte, nZ0, nZ1, fun a k => (jτ2 a k).1, fun a k => (jτ2 a k).2]) <;> (repeat' split) <;> first | omega | (have w9 := hf9 i; (try simp only [rII, rIJ, rIP, rJJ, rJI, rJP, rPP, rPI, rPJ, g1, g2, g3, g4, g5, g6, g7, g8, Nat.reduceEqDiff, Nat.reduceAdd, false_and, and_false, true_and, and_true, reduceIte, nZ0, nZ1, fun a k => (jτ2 a k).1, fun a k => (jτ2 a k).2] at w9) <;> (repeat' split at w9) <;> omega)))
          · (try simp only [rII, rIJ, rIP, rJJ, rJI, rJP, rPP, rPI, rPJ, g1, g2, g3, g4, g5, g6, g7, g8, Nat.reduceEqDiff, Nat.reduceAdd, false_and, and_false, true_and, and_true, reduceIte, nZ0, nZ1, fun a k => (jτ2 a k).1, fun a k => (jτ2 a k).2]) <;> (first | omega | with_reducible assumption | (unfold rng; omega) | (unfold rng; (repeat' split) <;> omega))
        · rename_i hc20
          skip
          unfold w_X16_empty_23
          try simp only [forall_eq, rII, rIJ, rIP, rJJ, rJI, rJP, rPP, rPI, rPJ, g1, g2, g3, g4, g5, g6, g7, g8, Nat.reduceEqDiff, Nat.reduceAdd, false_and, and_false, true_and, and_true, reduceIte, nZ0, nZ1, fun a k => (jτ2 a k).1, fun a k => (jτ2 a k).2]
          refine ⟨by (first | omega | with_reducible assumption | (unfold rng; omega) | (unfold rng; (repeat' split) <;> omega)), ?_⟩
          unfold w_X16_empty_30
          try simp only [forall_eq, rII, rIJ, rIP, rJJ, rJI, rJP, rPP, rPI, rPJ, g1, g2, g3, g4, g5, g6, g7, g8, Nat.reduceEqDiff, Nat.reduceAdd, false_and, and_false, true_and, and_true, reduceIte, nZ0, nZ1, fun a k => (jτ2 a k).1, fun a k => (jτ2 a k).2]
          refine ⟨by (first | omega | with_reducible assumption | (unfold rng; omega) | (unfold rng; (repeat' split) <;> omega)), ?_⟩
          refine ⟨by (first | omega | with_reducible assumption | (unfold rng; omega) | (unfold rng; (repeat' split) <;> omega)), ?_⟩
          refine ih2 _ _ ?_ ?_ ?_ ?_
          · refine Rg.aI g ?_ (by simp only [rgT]; first | with_reducible exact nZ_rng _ | with_reducible exact nB_rng _ | with_reducible exact wr_rng _ | with_reducible exact i32any _ | (first | omega | with_reducible assumption | (unfold rng; omega) | (unfold rng; (repeat' split) <;> omega))); exact rτ2
          · refine Fr.aI g ?_ (by decide); exact fτ2
          · refine ⟨?_, ?_, ?_⟩ <;> (first | omega | (intro i hi; (try simp only [rII, rIJ, rIP, rJJ, rJI, rJP, rPP, rPI, rPJ, g1, g2, g3, g4, g5, g6, g7, g8, Nat.reduceEqDiff, Nat.reduceAdd, false_and, and_false, true_and, and_true, reduceIte, nZ0, nZ1, fun a k => (jτ2 a k).1, fun a k => (jτ2 a k).2]) <;> (repeat' split) <;> first | omega | (have w9 := hf9 i; (try simp only [rII, rIJ, rIP, rJJ, rJI, rJP, rPP, rPI, rPJ, g1, g2, g3, g4, g5, g6, g7, g8, Nat.reduceEqDiff, Nat.reduceAdd, false_and, and_false, true_and, and_true, reduceIte, nZ0, nZ1, fun a k => (jτ2 a k).1, fun a k => (jτ2 a k).2] at w9) <;> (repeat' split at w9) <;> omega)))
          · (try simp only [rII, rIJ, rIP, rJJ, rJI, rJP, rPP, rPI, rPJ, g1, g2, g3, g4, g5, g6, g7, g8, Nat.reduceEqDiff, Nat.reduceAdd, false_and, and_false, true_and, and_true, reduceIte, nZ0, nZ1, fun a k => (jτ2 a k).1, fun a k => (jτ2 a k).2]) <;> (first | omega | with_reducible assumption | (unfold rng; omega) | (unfold rng; (repeat' split) <;> omega))
  refine ⟨_, L2 _ _ _ ?_ ?_ ?_ (Nat.lt_succ_self _)⟩
  · exact rσ
  · exact fσ
  · refine ⟨?_, ?_, ?_⟩ <;> (first | omega | (intro i hi; (try simp only [rII, rIJ, rIP, rJJ, rJI, rJP, rPP, rPI, rPJ, g1, g2, g3, g4, g5, g6, g7, g8, Nat.reduceEqDiff, Nat.reduceAdd, false_and, and_false, true_and, and_true, reduceIte, nZ0, nZ1]) <;> (repeat' split) <;> first | omega | (have w9 := hf9 i; (try simp only [rII, rIJ, rIP, rJJ, rJI, rJP, rPP, rPI, rPJ, g1, g2, g3, g4, g5, g6, g7, g8, Nat.reduceEqDiff, Nat.reduceAdd, false_and, and_false, true_and, and_true, reduceIte, nZ0, nZ1] at w9) <;> (repeat' split at w9) <;> omega)))
set_option maxHeartbeats 8000000 in
theorem s_X16_takeGaps {ra : Nat → Nat} {jx : Nat → Nat → Nat} {rm : Nat} {ja : Nat} (g : Geo ra jx rm) {σ : Sg} {v1 : Int} {v2 : Int} {v3 : Int64} {v5 : Int} (rσ : Rg ra jx rm σ) (hj : gP σ rm 17 = some ja) (hja : ja = ra 15 ∨ ja = ra 16) (hre : RecE ra jx rm ja σ) (h1 : 0 ≤ v1 ∧ v1 < 64) (h2 : 0 ≤ v2 ∧ v2 < 16) (h3 : v3.toInt ≤ 4611686018427387904) (h5 : 0 ≤ v5 ∧ v5 < 30000) (hvs : ∀ k, 0 ≤ k → k < gI σ (jx ja 12) v2.toNat → gI σ (jx ja 14) (8 * v2 + k).toNat ≠ 0 → PO jx ja σ (gI σ (jx ja 13) (8 * v2 + k).toNat)) (hto : gI σ (ra 38) v1.toNat = v2) (hk : gI σ (jx ja 2) v2.toNat ≠ 8) {Q : Sg → Unit → Prop} {X : Sg → String → Prop} (hQ : ∀ (σ' : Sg) (r : Unit), Rg ra jx rm σ' → Fr ra jx rm [20, 26, 42, 68, 69, 70, 71, 72, 73, 74, 75, 76, 77, 78, 82] [21, 27, 79, 80] σ σ' → (RecE ra jx rm ja σ') → Q σ' r) (hX : ∀ (σ' : Sg) (E : String), Rg ra jx rm σ' → Fr ra jx rm [20, 26, 42, 68, 69, 70, 71, 72, 73, 74, 75, 76, 77, 78, 82] [21, 27, 79, 80] σ σ' → (E = "StreamHouseModel$Broken" ∧ RecE ra jx rm ja σ') → X σ' E) : wp_X16_takeGaps ra jx rm v1 v2 v3 v5 σ Q X := by
  obtain ⟨g1, g2, g3, g4, g5, g6, g7, g8⟩ := id g
  have fσ : Fr ra jx rm [20, 26, 42, 68, 69, 70, 71, 72, 73, 74, 75, 76, 77, 78, 82] [21, 27, 79, 80] σ σ := Fr.rf
  obtain ⟨own0, ps0, hr0, hm0⟩ := id hre
  unfold wp_X16_takeGaps
  unfold w_X16_takeGaps_0
  try simp only [forall_eq, rII, rIJ, rIP, rJJ, rJI, rJP, rPP, rPI, rPJ, g1, g2, g3, g4, g5, g6, g7, g8, Nat.reduceEqDiff, Nat.reduceAdd, false_and, and_false, true_and, and_true, reduceIte, nZ0, nZ1]
  refine s_X16_weigh g rσ (by first | exact hj | (rw [fσ.2.2.2]; exact hj)) hja (by (try simp only [rII, rIJ, rIP, rJJ, rJI, rJP, rPP, rPI, rPJ, g1, g2, g3, g4, g5, g6, g7, g8, Nat.reduceEqDiff, Nat.reduceAdd, false_and, and_false, true_and, and_true, reduceIte, nZ0, nZ1]) <;> (first | omega | with_reducible assumption | (unfold rng; omega) | (unfold rng; (repeat' split) <;> omega) | grind)) (by (try simp only [rII, rIJ, rIP, rJJ, rJI, rJP, rPP, rPI, rPJ, g1, g2, g3, g4, g5, g6, g7, g8, Nat.reduceEqDiff, Nat.reduceAdd, false_and, and_false, true_and, and_true, reduceIte, nZ0, nZ1]) <;> (first | omega | with_reducible assumption | (unfold rng; omega) | (unfold rng; (repeat' split) <;> omega) | grind)) (by (try simp only [rII, rIJ, rIP, rJJ, rJI, rJP, rPP, rPI, rPJ, g1, g2, g3, g4, g5, g6, g7, g8, Nat.reduceEqDiff, Nat.reduceAdd, false_and, and_false, true_and, and_true, reduceIte, nZ0, nZ1]) <;> exact hvs) (fun σ29 r30 rσ29 fc p1 => ?_)
  have fσ29 : Fr ra jx rm [20, 26, 42, 68, 69, 70, 71, 72, 73, 74, 75, 76, 77, 78, 82] [21, 27, 79, 80] σ σ29 := Fr.tr fσ (Fr.mor (fc) (by decide) (by decide))
  have fc0 := fc
  have re0 := RecI.fr hr0 fc (by decide) (by decide)
  have me0 := MtI.fr hm0 fc (by decide)
  have eσ29_38 := fσ29.1 38 (by decide)
  have eσ29_81 := fσ29.1 81 (by decide)
  have jσ29 := fσ29.2.2.1
  have pσ29 := fσ29.2.2.2
  try simp only [forall_eq, rII, rIJ, rIP, rJJ, rJI, rJP, rPP, rPI, rPJ, g1, g2, g3, g4, g5, g6, g7, g8, Nat.reduceEqDiff, Nat.reduceAdd, false_and, and_false, true_and, and_true, reduceIte, nZ0, nZ1, eσ29_38.1, eσ29_38.2, eσ29_81.1, eσ29_81.2, fun a k => (jσ29 a k).1, fun a k => (jσ29 a k).2, pσ29]
  split
  · rename_i hc7
    skip
    unfold w_X16_takeGaps_11
    try simp only [forall_eq, rII, rIJ, rIP, rJJ, rJI, rJP, rPP, rPI, rPJ, g1, g2, g3, g4, g5, g6, g7, g8, Nat.reduceEqDiff, Nat.reduceAdd, false_and, and_false, true_and, and_true, reduceIte, nZ0, nZ1, eσ29_38.1, eσ29_38.2, eσ29_81.1, eσ29_81.2, fun a k => (jσ29 a k).1, fun a k => (jσ29 a k).2, pσ29]
    refine ⟨ja, by exact hj, hja, ?_⟩
    refine ⟨by (first | omega | with_reducible assumption | (unfold rng; omega) | (unfold rng; (repeat' split) <;> omega) | grind), ?_⟩
    have q2 := rσ.2.2.1 ja 10 (v2.toNat); simp only [rgJ] at q2
    refine ⟨by (first | omega | with_reducible assumption | (unfold rng; omega) | (unfold rng; (repeat' split) <;> omega) | grind), ?_⟩
    refine ⟨ja, by exact hj, hja, ?_⟩
    refine ⟨by (first | omega | with_reducible assumption | (unfold rng; omega) | (unfold rng; (repeat' split) <;> omega) | grind), ?_⟩
    refine ⟨by (first | omega | with_reducible assumption | (unfold rng; omega) | (unfold rng; (repeat' split) <;> omega) | grind), ?_⟩
    have q3 := rσ29.1 76 (v1.toNat); simp only [rgT] at q3
    have L59 : ∀ (fu59 : Nat) (τ59 : Sg) (v11 : Int) (v12 : Int64) (v14 : Int64) (v16 : Int), Rg ra jx rm τ59 → Fr ra jx rm [20, 26, 42, 68, 69, 70, 71, 72, 73, 74, 75, 76, 77, 78, 82] [21, 27, 79, 80] σ τ59 → (∃ own ps, (((RecI ra rm τ59 own ps ∧ MtI ra jx ja τ59 own) ∧ (v11 = -1 ∨ own v11 = v1)) ∧ (v12.toInt ≤ 4611686018427387904 ∧ 0 ≤ v16 ∧ v16 < 30000)) ∧ (lmm ra τ59 v1 ps v11) < fu59) → (0) < 1 + 0 * 59 → wl_X16_takeGaps_59 ra jx rm Q X fu59 τ59 v1 v2 v3 (gJ σ (ra 81) (gI σ (jx ja 10) v2.toNat).toNat) (gJ σ (jx ja 8) v2.toNat) v11 v12 v14 v16 := by
      intro fu59
      induction fu59 with
      | zero => intro τ59 _ _ _ _ _ _ h9 _; obtain ⟨_, _, h9⟩ := h9; omega
      | succ fu59 ih59 =>
        intro τ59 v11 v12 v14 v16 rτ59 fτ59 hi59 hm59
        obtain ⟨own, ps, hi59, hm59⟩ := hi59
        unfold wl_X16_takeGaps_59
        have eτ59_38 := fτ59.1 38 (by decide)
        have eτ59_81 := fτ59.1 81 (by decide)
        have jτ59 := fτ59.2.2.1
        have pτ59 := fτ59.2.2.2
        unfold w_X16_takeGaps_59
        try simp only [forall_eq, rII, rIJ, rIP, rJJ, rJI, rJP, rPP, rPI, rPJ, g1, g2, g3, g4, g5, g6, g7, g8, Nat.reduceEqDiff, Nat.reduceAdd, false_and, and_false, true_and, and_true, reduceIte, nZ0, nZ1, eτ59_38.1, eτ59_38.2, eτ59_81.1, eτ59_81.2, fun a k => (jτ59 a k).1, fun a k => (jτ59 a k).2, pτ59]
        split
        · rename_i hc62
          skip
          unfold w_X16_takeGaps_241
          try simp only [forall_eq, rII, rIJ, rIP, rJJ, rJI, rJP, rPP, rPI, rPJ, g1, g2, g3, g4, g5, g6, g7, g8, Nat.reduceEqDiff, Nat.reduceAdd, false_and, and_false, true_and, and_true, reduceIte, nZ0, nZ1, eτ59_38.1, eτ59_38.2, eτ59_81.1, eτ59_81.2, fun a k => (jτ59 a k).1, fun a k => (jτ59 a k).2, pτ59]
          refine s_X16_record (own := own) (ps := ps) (b9 := (ra 82)) (n9 := 16) g rτ59 rfl (Or.inl ⟨82, rfl, by decide⟩) hi59.1.1.1 (by (try simp only [rII, rIJ, rIP, rJJ, rJI, rJP, rPP, rPI, rPJ, g1, g2, g3, g4, g5, g6, g7, g8, Nat.reduceEqDiff, Nat.reduceAdd, false_and, and_false, true_and, and_true, reduceIte, nZ0, nZ1, eτ59_38.1, eτ59_38.2, eτ59_81.1, eτ59_81.2, fun a k => (jτ59 a k).1, fun a k => (jτ59 a k).2, pτ59]) <;> (first | omega | with_reducible assumption | (unfold rng; omega) | (unfold rng; (repeat' split) <;> omega) | grind)) (by (try simp only [rII, rIJ, rIP, rJJ, rJI, rJP, rPP, rPI, rPJ, g1, g2, g3, g4, g5, g6, g7, g8, Nat.reduceEqDiff, Nat.reduceAdd, false_and, and_false, true_and, and_true, reduceIte, nZ0, nZ1, eτ59_38.1, eτ59_38.2, eτ59_81.1, eτ59_81.2, fun a k => (jτ59 a k).1, fun a k => (jτ59 a k).2, pτ59]) <;> (first | omega | with_reducible assumption | (unfold rng; omega) | (unfold rng; (repeat' split) <;> omega) | grind)) hi59.2.1 (by (try simp only [rII, rIJ, rIP, rJJ, rJI, rJP, rPP, rPI, rPJ, g1, g2, g3, g4, g5, g6, g7, g8, Nat.reduceEqDiff, Nat.reduceAdd, false_and, and_false, true_and, and_true, reduceIte, nZ0, nZ1, eτ59_38.1, eτ59_38.2, eτ59_81.1, eτ59_81.2, fun a k => (jτ59 a k).1, fun a k => (jτ59 a k).2, pτ59]) <;> (first | omega | with_reducible assumption | (unfold rng; omega) | (unfold rng; (repeat' split) <;> omega) | grind)) (by (try simp only [rII, rIJ, rIP, rJJ, rJI, rJP, rPP, rPI, rPJ, g1, g2, g3, g4, g5, g6, g7, g8, Nat.reduceEqDiff, Nat.reduceAdd, false_and, and_false, true_and, and_true, reduceIte, nZ0, nZ1, eτ59_38.1, eτ59_38.2, eτ59_81.1, eτ59_81.2, fun a k => (jτ59 a k).1, fun a k => (jτ59 a k).2, pτ59]) <;> (first | omega | with_reducible assumption | (unfold rng; omega) | (unfold rng; (repeat' split) <;> omega) | grind)) (by (try simp only [rII, rIJ, rIP, rJJ, rJI, rJP, rPP, rPI, rPJ, g1, g2, g3, g4, g5, g6, g7, g8, Nat.reduceEqDiff, Nat.reduceAdd, false_and, and_false, true_and, and_true, reduceIte, nZ0, nZ1, eτ59_38.1, eτ59_38.2, eτ59_81.1, eτ59_81.2, fun a k => (jτ59 a k).1, fun a k => (jτ59 a k).2, pτ59]) <;> (first | omega | with_reducible assumption | (unfold rng; omega) | (unfold rng; (repeat' split) <;> omega) | grind)) (fun σ33 r34 rσ33 fc p4 => ?_) (fun σx E rx fx px => hX _ _ rx (Fr.tr fτ59 (Fr.mor (fx) (by decide) (by decide))) (by obtain ⟨e1, e2⟩ := px; subst e2; exact ⟨e1, _, _, hi59.1.1.1, hi59.1.1.2⟩))
          have fσ33 : Fr ra jx rm [20, 26, 42, 68, 69, 70, 71, 72, 73, 74, 75, 76, 77, 78, 82] [21, 27, 79, 80] σ σ33 := Fr.tr fτ59 (Fr.mor (fc) (by decide) (by decide))
          have me8 := MtI.more hi59.1.1.2 fc (by decide) h1 p4.2.2.2.1 p4.2.2.2.2.1 p4.2.2.2.2.2 (fun a ha => (hi59.1.1.1.2.2.1 a (by omega)).1) (fun q => absurd (show gI σ (jx ja 2) v2.toNat = 8 by simpa only [rII, rIJ, rIP, rJJ, rJI, rJP, rPP, rPI, rPJ, g1, g2, g3, g4, g5, g6, g7, g8, Nat.reduceEqDiff, Nat.reduceAdd, false_and, and_false, true_and, and_true, reduceIte, nZ0, nZ1, eτ59_38.1, eτ59_38.2, eτ59_81.1, eτ59_81.2, fun a k => (jτ59 a k).1, fun a k => (jτ59 a k).2, pτ59, hto] using q) hk)
          have re8 := p4.1
          have eσ33_38 := fσ33.1 38 (by decide)
          have eσ33_81 := fσ33.1 81 (by decide)
          have jσ33 := fσ33.2.2.1
          have pσ33 := fσ33.2.2.2
          try simp only [forall_eq, rII, rIJ, rIP, rJJ, rJI, rJP, rPP, rPI, rPJ, g1, g2, g3, g4, g5, g6, g7, g8, Nat.reduceEqDiff, Nat.reduceAdd, false_and, and_false, true_and, and_true, reduceIte, nZ0, nZ1, eσ33_38.1, eσ33_38.2, eσ33_81.1, eσ33_81.2, fun a k => (jσ33 a k).1, fun a k => (jσ33 a k).2, pσ33]
          refine hQ _ _ ?_ ?_ ?_
          · exact rσ33
          · exact fσ33
          · first | exact ⟨_, _, re8, me8⟩ | exact RecE.fr hre fc0 (by decide) (by decide)
        · rename_i hc62
          skip
          unfold w_X16_takeGaps_65
          try simp only [forall_eq, rII, rIJ, rIP, rJJ, rJI, rJP, rPP, rPI, rPJ, g1, g2, g3, g4, g5, g6, g7, g8, Nat.reduceEqDiff, Nat.reduceAdd, false_and, and_false, true_and, and_true, reduceIte, nZ0, nZ1, eτ59_38.1, eτ59_38.2, eτ59_81.1, eτ59_81.2, fun a k => (jτ59 a k).1, fun a k => (jτ59 a k).2, pτ59]
          have hov := hi59.1.2.resolve_left (by assumption)
          have n11 := hi59.1.1.1.nd hov h1
          refine ⟨by (first | omega | with_reducible assumption | (unfold rng; omega) | (unfold rng; (repeat' split) <;> omega) | grind), ?_⟩
          refine ⟨by (first | omega | with_reducible assumption | (unfold rng; omega) | (unfold rng; (repeat' split) <;> omega) | grind), ?_⟩
          split
          · rename_i hc84
            skip
            unfold w_X16_takeGaps_234
            try simp only [forall_eq, rII, rIJ, rIP, rJJ, rJI, rJP, rPP, rPI, rPJ, g1, g2, g3, g4, g5, g6, g7, g8, Nat.reduceEqDiff, Nat.reduceAdd, false_and, and_false, true_and, and_true, reduceIte, nZ0, nZ1, eτ59_38.1, eτ59_38.2, eτ59_81.1, eτ59_81.2, fun a k => (jτ59 a k).1, fun a k => (jτ59 a k).2, pτ59]
            have q5 := rτ59.1 75 (v11.toNat); simp only [rgT] at q5
            refine ih59 _ _ _ _ _ ?_ ?_ ?_ ?_
            · exact rτ59
            · exact fτ59
            · first | (obtain ⟨o9, s9, w1, w2⟩ := stepD re7 me7 h1 hov p9 fc9 (by simp only [lmm, k78]; exact hm59); rw [k75] at w1 w2; exact ⟨o9, s9, ⟨w1, by unfold minJ; split <;> first | omega | exact Int.le_trans (rτ59.2.2.2 71 _) (Int.le_refl _), by omega, by omega⟩, w2⟩) | (obtain ⟨o9, s9, w1, w2⟩ := stepK hi59.1.1.1 hi59.1.1.2 h1 hov hm59; exact ⟨o9, s9, ⟨w1, hi59.2⟩, w2⟩)
            · omega
          · rename_i hc84
            skip
            unfold w_X16_takeGaps_87
            try simp only [forall_eq, rII, rIJ, rIP, rJJ, rJI, rJP, rPP, rPI, rPJ, g1, g2, g3, g4, g5, g6, g7, g8, Nat.reduceEqDiff, Nat.reduceAdd, false_and, and_false, true_and, and_true, reduceIte, nZ0, nZ1, eτ59_38.1, eτ59_38.2, eτ59_81.1, eτ59_81.2, fun a k => (jτ59 a k).1, fun a k => (jτ59 a k).2, pτ59]
            refine ⟨by (first | omega | with_reducible assumption | (unfold rng; omega) | (unfold rng; (repeat' split) <;> omega) | grind), ?_⟩
            split
            · rename_i hc99
              skip
              unfold w_X16_takeGaps_234
              try simp only [forall_eq, rII, rIJ, rIP, rJJ, rJI, rJP, rPP, rPI, rPJ, g1, g2, g3, g4, g5, g6, g7, g8, Nat.reduceEqDiff, Nat.reduceAdd, false_and, and_false, true_and, and_true, reduceIte, nZ0, nZ1, eτ59_38.1, eτ59_38.2, eτ59_81.1, eτ59_81.2, fun a k => (jτ59 a k).1, fun a k => (jτ59 a k).2, pτ59]
              have q6 := rτ59.1 75 (v11.toNat); simp only [rgT] at q6
              refine ih59 _ _ _ _ _ ?_ ?_ ?_ ?_
              · exact rτ59
              · exact fτ59
              · first | (obtain ⟨o9, s9, w1, w2⟩ := stepD re7 me7 h1 hov p9 fc9 (by simp only [lmm, k78]; exact hm59); rw [k75] at w1 w2; exact ⟨o9, s9, ⟨w1, by unfold minJ; split <;> first | omega | exact Int.le_trans (rτ59.2.2.2 71 _) (Int.le_refl _), by omega, by omega⟩, w2⟩) | (obtain ⟨o9, s9, w1, w2⟩ := stepK hi59.1.1.1 hi59.1.1.2 h1 hov hm59; exact ⟨o9, s9, ⟨w1, hi59.2⟩, w2⟩)
              · omega
            · rename_i hc99
              skip
              unfold w_X16_takeGaps_102
              try simp only [forall_eq, rII, rIJ, rIP, rJJ, rJI, rJP, rPP, rPI, rPJ, g1, g2, g3, g4, g5, g6, g7, g8, Nat.reduceEqDiff, Nat.reduceAdd, false_and, and_false, true_and, and_true, reduceIte, nZ0, nZ1, eτ59_38.1, eτ59_38.2, eτ59_81.1, eτ59_81.2, fun a k => (jτ59 a k).1, fun a k => (jτ59 a k).2, pτ59]
              refine ⟨by (first | omega | with_reducible assumption | (unfold rng; omega) | (unfold rng; (repeat' split) <;> omega) | grind), ?_⟩
              split
              · rename_i hc114
                skip
                unfold w_X16_takeGaps_234
                try simp only [forall_eq, rII, rIJ, rIP, rJJ, rJI, rJP, rPP, rPI, rPJ, g1, g2, g3, g4, g5, g6, g7, g8, Nat.reduceEqDiff, Nat.reduceAdd, false_and, and_false, true_and, and_true, reduceIte, nZ0, nZ1, eτ59_38.1, eτ59_38.2, eτ59_81.1, eτ59_81.2, fun a k => (jτ59 a k).1, fun a k => (jτ59 a k).2, pτ59]
                have q7 := rτ59.1 75 (v11.toNat); simp only [rgT] at q7
                refine ih59 _ _ _ _ _ ?_ ?_ ?_ ?_
                · exact rτ59
                · exact fτ59
                · first | (obtain ⟨o9, s9, w1, w2⟩ := stepD re7 me7 h1 hov p9 fc9 (by simp only [lmm, k78]; exact hm59); rw [k75] at w1 w2; exact ⟨o9, s9, ⟨w1, by unfold minJ; split <;> first | omega | exact Int.le_trans (rτ59.2.2.2 71 _) (Int.le_refl _), by omega, by omega⟩, w2⟩) | (obtain ⟨o9, s9, w1, w2⟩ := stepK hi59.1.1.1 hi59.1.1.2 h1 hov hm59; exact ⟨o9, s9, ⟨w1, hi59.2⟩, w2⟩)
                · omega
              · rename_i hc114
                skip
                unfold w_X16_takeGaps_117
                try simp only [forall_eq, rII, rIJ, rIP, rJJ, rJI, rJP, rPP, rPI, rPJ, g1, g2, g3, g4, g5, g6, g7, g8, Nat.reduceEqDiff, Nat.reduceAdd, false_and, and_false, true_and, and_true, reduceIte, nZ0, nZ1, eτ59_38.1, eτ59_38.2, eτ59_81.1, eτ59_81.2, fun a k => (jτ59 a k).1, fun a k => (jτ59 a k).2, pτ59]
                refine ⟨by (first | omega | with_reducible assumption | (unfold rng; omega) | (unfold rng; (repeat' split) <;> omega) | grind), ?_⟩
                refine ⟨by (first | omega | with_reducible assumption | (unfold rng; omega) | (unfold rng; (repeat' split) <;> omega) | grind), ?_⟩
                refine ⟨by (first | omega | with_reducible assumption | (unfold rng; omega) | (unfold rng; (repeat' split) <;> omega) | grind), ?_⟩
                have q8 := rτ59.1 74 (v11.toNat); simp only [rgT] at q8
                refine s_X16_joined g rτ59 (by (try simp only [rII, rIJ, rIP, rJJ, rJI, rJP, rPP, rPI, rPJ, g1, g2, g3, g4, g5, g6, g7, g8, Nat.reduceEqDiff, Nat.reduceAdd, false_and, and_false, true_and, and_true, reduceIte, nZ0, nZ1, eτ59_38.1, eτ59_38.2, eτ59_81.1, eτ59_81.2, fun a k => (jτ59 a k).1, fun a k => (jτ59 a k).2, pτ59]) <;> (first | omega | with_reducible assumption | (unfold rng; omega) | (unfold rng; (repeat' split) <;> omega) | grind)) (by (try simp only [rII, rIJ, rIP, rJJ, rJI, rJP, rPP, rPI, rPJ, g1, g2, g3, g4, g5, g6, g7, g8, Nat.reduceEqDiff, Nat.reduceAdd, false_and, and_false, true_and, and_true, reduceIte, nZ0, nZ1, eτ59_38.1, eτ59_38.2, eτ59_81.1, eτ59_81.2, fun a k => (jτ59 a k).1, fun a k => (jτ59 a k).2, pτ59]) <;> (first | omega | with_reducible assumption | (unfold rng; omega) | (unfold rng; (repeat' split) <;> omega) | grind)) (fun σ35 r36 rσ35 fc p9 => ?_) (fun σx E rx fx px => hX _ _ rx (Fr.tr fτ59 (Fr.mor (fx) (by decide) (by decide))) ⟨px, _, _, RecI.fr hi59.1.1.1 fx (by decide) (by decide), MtI.fr hi59.1.1.2 fx (by decide)⟩)
                have fσ35 : Fr ra jx rm [20, 26, 42, 68, 69, 70, 71, 72, 73, 74, 75, 76, 77, 78, 82] [21, 27, 79, 80] σ σ35 := Fr.tr fτ59 (Fr.mor (fc) (by decide) (by decide))
                have re6 := RecI.fr hi59.1.1.1 fc (by decide) (by decide)
                have me6 := MtI.fr hi59.1.1.2 fc (by decide)
                have e78 := congrFun (fc.1 78 (by decide)).1 v1.toNat
                have e75 := congrFun (fc.1 75 (by decide)).1 v11.toNat
                have eσ35_38 := fσ35.1 38 (by decide)
                have eσ35_81 := fσ35.1 81 (by decide)
                have jσ35 := fσ35.2.2.1
                have pσ35 := fσ35.2.2.2
                try simp only [forall_eq, rII, rIJ, rIP, rJJ, rJI, rJP, rPP, rPI, rPJ, g1, g2, g3, g4, g5, g6, g7, g8, Nat.reduceEqDiff, Nat.reduceAdd, false_and, and_false, true_and, and_true, reduceIte, nZ0, nZ1, eσ35_38.1, eσ35_38.2, eσ35_81.1, eσ35_81.2, fun a k => (jσ35 a k).1, fun a k => (jσ35 a k).2, pσ35]
                have q10 := rσ.2.2.1 ja 12 (v2.toNat); simp only [rgJ] at q10
                have q11 := rτ59.1 75 (v11.toNat); simp only [rgT] at q11
                have L163 : ∀ (fu163 : Nat) (τ163 : Sg) (v18 : Int), Rg ra jx rm τ163 → Fr ra jx rm [20, 26, 42, 68, 69, 70, 71, 72, 73, 74, 75, 76, 77, 78, 82] [21, 27, 79, 80] σ τ163 → (RecI ra rm τ163 own ps ∧ MtI ra jx ja τ163 own ∧ gI τ163 (ra 78) v1.toNat = gI τ59 (ra 78) v1.toNat ∧ gI τ163 (ra 75) v11.toNat = gI τ59 (ra 75) v11.toNat ∧ 0 ≤ v18 ∧ v18 ≤ (gI σ (jx ja 12) v2.toNat)) → (((gI σ (jx ja 12) v2.toNat) - v18).toNat) < fu163 → wl_X16_takeGaps_163 ra jx rm (wl_X16_takeGaps_59 ra jx rm Q X fu59) Q X fu163 τ163 v1 v2 v3 (gJ σ (ra 81) (gI σ (jx ja 10) v2.toNat).toNat) (gJ σ (jx ja 8) v2.toNat) v11 (minJ v12 (gJ τ59 (ra 71) v11.toNat)) (maxJ v14 (gJ τ59 (ra 72) v11.toNat)) r36 (gI τ59 (ra 75) v11.toNat) v18 := by
                  intro fu163
                  induction fu163 with
                  | zero => intro τ163 _ _ _ _ h9; omega
                  | succ fu163 ih163 =>
                    intro τ163 v18 rτ163 fτ163 hi163 hm163
                    unfold wl_X16_takeGaps_163
                    have eτ163_38 := fτ163.1 38 (by decide)
                    have eτ163_81 := fτ163.1 81 (by decide)
                    have jτ163 := fτ163.2.2.1
                    have pτ163 := fτ163.2.2.2
                    unfold w_X16_takeGaps_163
                    try simp only [forall_eq, rII, rIJ, rIP, rJJ, rJI, rJP, rPP, rPI, rPJ, g1, g2, g3, g4, g5, g6, g7, g8, Nat.reduceEqDiff, Nat.reduceAdd, false_and, and_false, true_and, and_true, reduceIte, nZ0, nZ1, eτ163_38.1, eτ163_38.2, eτ163_81.1, eτ163_81.2, fun a k => (jτ163 a k).1, fun a k => (jτ163 a k).2, pτ163]
                    obtain ⟨re7, me7, k78, k75, k5, k6⟩ := hi163
                    refine ⟨ja, by exact hj, hja, ?_⟩
                    refine ⟨by (first | omega | with_reducible assumption | (unfold rng; omega) | (unfold rng; (repeat' split) <;> omega) | grind), ?_⟩
                    split
                    · rename_i hc174
                      skip
                      unfold w_X16_takeGaps_228
                      try simp only [forall_eq, rII, rIJ, rIP, rJJ, rJI, rJP, rPP, rPI, rPJ, g1, g2, g3, g4, g5, g6, g7, g8, Nat.reduceEqDiff, Nat.reduceAdd, false_and, and_false, true_and, and_true, reduceIte, nZ0, nZ1, eτ163_38.1, eτ163_38.2, eτ163_81.1, eτ163_81.2, fun a k => (jτ163 a k).1, fun a k => (jτ163 a k).2, pτ163]
                      refine s_X16_drop (own := own) (ps := ps) g rτ163 re7 h1 hov (fun σ38 _ rσ38 fc p12 => ?_)
                      have fσ38 : Fr ra jx rm [20, 26, 42, 68, 69, 70, 71, 72, 73, 74, 75, 76, 77, 78, 82] [21, 27, 79, 80] σ σ38 := Fr.tr fτ163 (Fr.mor (fc) (by decide) (by decide))
                      have p9 := p12
                      have fc9 := fc
                      have eσ38_38 := fσ38.1 38 (by decide)
                      have eσ38_81 := fσ38.1 81 (by decide)
                      have jσ38 := fσ38.2.2.1
                      have pσ38 := fσ38.2.2.2
                      try simp only [forall_eq, rII, rIJ, rIP, rJJ, rJI, rJP, rPP, rPI, rPJ, g1, g2, g3, g4, g5, g6, g7, g8, Nat.reduceEqDiff, Nat.reduceAdd, false_and, and_false, true_and, and_true, reduceIte, nZ0, nZ1, eσ38_38.1, eσ38_38.2, eσ38_81.1, eσ38_81.2, fun a k => (jσ38 a k).1, fun a k => (jσ38 a k).2, pσ38]
                      unfold w_X16_takeGaps_234
                      try simp only [forall_eq, rII, rIJ, rIP, rJJ, rJI, rJP, rPP, rPI, rPJ, g1, g2, g3, g4, g5, g6, g7, g8, Nat.reduceEqDiff, Nat.reduceAdd, false_and, and_false, true_and, and_true, reduceIte, nZ0, nZ1, eσ38_38.1, eσ38_38.2, eσ38_81.1, eσ38_81.2, fun a k => (jσ38 a k).1, fun a k => (jσ38 a k).2, pσ38]
                      refine ih59 _ _ _ _ _ ?_ ?_ ?_ ?_
                      · exact rσ38
                      · exact fσ38
                      · first | (obtain ⟨o9, s9, w1, w2⟩ := stepD re7 me7 h1 hov p9 fc9 (by simp only [lmm, k78]; exact hm59); rw [k75] at w1 w2; exact ⟨o9, s9, ⟨w1, by unfold minJ; split <;> first | omega | exact Int.le_trans (rτ59.2.2.2 71 _) (Int.le_refl _), by omega, by omega⟩, w2⟩) | (obtain ⟨o9, s9, w1, w2⟩ := stepK hi59.1.1.1 hi59.1.1.2 h1 hov hm59; exact ⟨o9, s9, ⟨w1, hi59.2⟩, w2⟩)
                      · omega
                    · rename_i hc174
                      skip
                      unfold w_X16_takeGaps_177
                      try simp only [forall_eq, rII, rIJ, rIP, rJJ, rJI, rJP, rPP, rPI, rPJ, g1, g2, g3, g4, g5, g6, g7, g8, Nat.reduceEqDiff, Nat.reduceAdd, false_and, and_false, true_and, and_true, reduceIte, nZ0, nZ1, eτ163_38.1, eτ163_38.2, eτ163_81.1, eτ163_81.2, fun a k => (jτ163 a k).1, fun a k => (jτ163 a k).2, pτ163]
                      refine ⟨ja, by exact hj, hja, ?_⟩
                      refine ⟨by (first | omega | with_reducible assumption | (unfold rng; omega) | (unfold rng; (repeat' split) <;> omega) | grind), ?_⟩
                      refine ⟨by (first | omega | with_reducible assumption | (unfold rng; omega) | (unfold rng; (repeat' split) <;> omega) | grind), ?_⟩
                      refine ⟨by (first | omega | with_reducible assumption | (unfold rng; omega) | (unfold rng; (repeat' split) <;> omega) | grind), ?_⟩
                      refine ⟨by (first | omega | with_reducible assumption | (unfold rng; omega) | (unfold rng; (repeat' split) <;> omega) | grind), ?_⟩
                      refine ⟨by (first | omega | with_reducible assumption | (unfold rng; omega) | (unfold rng; (repeat' split) <;> omega) | grind), ?_⟩
                      refine ⟨by (first | omega | with_reducible assumption | (unfold rng; omega) | (unfold rng; (repeat' split) <;> omega) | grind), ?_⟩
                      refine ⟨by (first | omega | with_reducible assumption | (unfold rng; omega) | (unfold rng; (repeat' split) <;> omega) | grind), ?_⟩
                      have q13 := rσ.2.2.1 ja 14 (((8 * v2) + v18).toNat); simp only [rgJ] at q13
                      refine s_X16_gathered g rτ163 (fun r41 p14 => ?_)
                      try simp only [forall_eq, rII, rIJ, rIP, rJJ, rJI, rJP, rPP, rPI, rPJ, g1, g2, g3, g4, g5, g6, g7, g8, Nat.reduceEqDiff, Nat.reduceAdd, false_and, and_false, true_and, and_true, reduceIte, nZ0, nZ1, eτ163_38.1, eτ163_38.2, eτ163_81.1, eτ163_81.2, fun a k => (jτ163 a k).1, fun a k => (jτ163 a k).2, pτ163]
                      refine ⟨by (first | omega | with_reducible assumption | (unfold rng; omega) | (unfold rng; (repeat' split) <;> omega) | grind), ?_⟩
                      refine ⟨by (first | omega | with_reducible assumption | (unfold rng; omega) | (unfold rng; (repeat' split) <;> omega) | grind), ?_⟩
                      refine ih163 _ _ ?_ ?_ ?_ ?_
                      · refine Rg.aJ g ?_ (by simp only [rlT]; first | with_reducible assumption | omega | exact Int64.toInt_le _ | (rw [Int64.toInt_ofInt_of_le (by omega) (by omega)]; omega) | grind); exact rτ163
                      · refine Fr.aJ g ?_ (by decide); exact fτ163
                      · refine ⟨?_, ?_, ?_, ?_, ?_, ?_⟩ <;> (first | with_reducible assumption | omega | exact RecI.fr (jx := jx) (K := [82]) (S := []) (by assumption) (by repeat (first | exact Fr.rf | assumption | refine Fr.aJ g ?_ (by decide) | refine Fr.aI g ?_ (by decide) | refine Fr.sI g ?_ (by decide) | refine Fr.sJ g ?_ (by decide))) (by decide) (by decide) | exact MtI.fr (rm := rm) (K := [82]) (S := []) (by assumption) (by repeat (first | exact Fr.rf | assumption | refine Fr.aJ g ?_ (by decide) | refine Fr.aI g ?_ (by decide) | refine Fr.sI g ?_ (by decide) | refine Fr.sJ g ?_ (by decide))) (by decide) | exact ThE.fr (jx := jx) (K := [82]) (S := []) (by assumption) (by repeat (first | exact Fr.rf | assumption | refine Fr.aJ g ?_ (by decide) | refine Fr.aI g ?_ (by decide) | refine Fr.sI g ?_ (by decide) | refine Fr.sJ g ?_ (by decide))) (by decide) (by decide) | exact HeE.fr (jx := jx) (K := [82]) (S := []) (by assumption) (by repeat (first | exact Fr.rf | assumption | refine Fr.aJ g ?_ (by decide) | refine Fr.aI g ?_ (by decide) | refine Fr.sI g ?_ (by decide) | refine Fr.sJ g ?_ (by decide))) (by decide) (by decide) | ((try simp only [rII, rIJ, rIP, rJJ, rJI, rJP, rPP, rPI, rPJ, g1, g2, g3, g4, g5, g6, g7, g8, Nat.reduceEqDiff, Nat.reduceAdd, false_and, and_false, true_and, and_true, reduceIte, nZ0, nZ1, eτ163_38.1, eτ163_38.2, eτ163_81.1, eτ163_81.2, fun a k => (jτ163 a k).1, fun a k => (jτ163 a k).2, pτ163]) <;> first | omega | assumption | grind))
                      · (try simp only [rII, rIJ, rIP, rJJ, rJI, rJP, rPP, rPI, rPJ, g1, g2, g3, g4, g5, g6, g7, g8, Nat.reduceEqDiff, Nat.reduceAdd, false_and, and_false, true_and, and_true, reduceIte, nZ0, nZ1, eτ163_38.1, eτ163_38.2, eτ163_81.1, eτ163_81.2, fun a k => (jτ163 a k).1, fun a k => (jτ163 a k).2, pτ163]) <;> (first | omega | with_reducible assumption | (unfold rng; omega) | (unfold rng; (repeat' split) <;> omega) | grind)
                refine ⟨_, L163 _ _ _ ?_ ?_ ?_ (Nat.lt_succ_self _)⟩
                · exact rσ35
                · exact fσ35
                · refine ⟨?_, ?_, ?_, ?_, ?_, ?_⟩ <;> (first | with_reducible assumption | omega | exact RecI.fr (jx := jx) (K := [82]) (S := []) (by assumption) (by repeat (first | exact Fr.rf | assumption | refine Fr.aJ g ?_ (by decide) | refine Fr.aI g ?_ (by decide) | refine Fr.sI g ?_ (by decide) | refine Fr.sJ g ?_ (by decide))) (by decide) (by decide) | exact MtI.fr (rm := rm) (K := [82]) (S := []) (by assumption) (by repeat (first | exact Fr.rf | assumption | refine Fr.aJ g ?_ (by decide) | refine Fr.aI g ?_ (by decide) | refine Fr.sI g ?_ (by decide) | refine Fr.sJ g ?_ (by decide))) (by decide) | exact ThE.fr (jx := jx) (K := [82]) (S := []) (by assumption) (by repeat (first | exact Fr.rf | assumption | refine Fr.aJ g ?_ (by decide) | refine Fr.aI g ?_ (by decide) | refine Fr.sI g ?_ (by decide) | refine Fr.sJ g ?_ (by decide))) (by decide) (by decide) | exact HeE.fr (jx := jx) (K := [82]) (S := []) (by assumption) (by repeat (first | exact Fr.rf | assumption | refine Fr.aJ g ?_ (by decide) | refine Fr.aI g ?_ (by decide) | refine Fr.sI g ?_ (by decide) | refine Fr.sJ g ?_ (by decide))) (by decide) (by decide) | ((try simp only [rII, rIJ, rIP, rJJ, rJI, rJP, rPP, rPI, rPJ, g1, g2, g3, g4, g5, g6, g7, g8, Nat.reduceEqDiff, Nat.reduceAdd, false_and, and_false, true_and, and_true, reduceIte, nZ0, nZ1, eσ35_38.1, eσ35_38.2, eσ35_81.1, eσ35_81.2, fun a k => (jσ35 a k).1, fun a k => (jσ35 a k).2, pσ35]) <;> first | omega | assumption | grind))
    refine ⟨(lmm ra σ29 v1 ps0 (gI σ29 (ra 76) v1.toNat)) + 1, L59 _ _ _ _ _ _ ?_ ?_ ?_ (by omega)⟩
    · exact rσ29
    · exact fσ29
    · exact ⟨own0, ps0, ⟨⟨⟨re0, me0⟩, re0.hd h1⟩, h3, by omega, by omega⟩, Nat.lt_succ_self _⟩
  · rename_i hc7
    skip
    unfold w_X16_takeGaps_10
    try simp only [forall_eq, rII, rIJ, rIP, rJJ, rJI, rJP, rPP, rPI, rPJ, g1, g2, g3, g4, g5, g6, g7, g8, Nat.reduceEqDiff, Nat.reduceAdd, false_and, and_false, true_and, and_true, reduceIte, nZ0, nZ1, eσ29_38.1, eσ29_38.2, eσ29_81.1, eσ29_81.2, fun a k => (jσ29 a k).1, fun a k => (jσ29 a k).2, pσ29]
    refine hQ _ _ ?_ ?_ ?_
    · exact rσ29
    · exact fσ29
    · first | exact ⟨_, _, re8, me8⟩ | exact RecE.fr hre fc0 (by decide) (by decide)
set_option maxHeartbeats 16000000 in
theorem s_X16_takeJoin {ra : Nat → Nat} {jx : Nat → Nat → Nat} {rm : Nat} {ja : Nat} (g : Geo ra jx rm) {σ : Sg} {v1 : Int} {v2 : Int} {v3 : Int} {v4 : Int64} {v6 : Int} (rσ : Rg ra jx rm σ) (hj : gP σ rm 17 = some ja) (hja : ja = ra 15 ∨ ja = ra 16) (hre : RecE ra jx rm ja σ) (hth : ThE ra rm σ) (h1 : 0 ≤ v1 ∧ v1 < 64) (h2 : 0 ≤ v2 ∧ v2 < 16) (h3 : 0 ≤ v3 ∧ v3 ≤ 1) (h4 : v4.toInt ≤ 4611686018427387904) (h6 : 0 ≤ v6 ∧ v6 < 30000) (hp : 1 ≤ gI σ rm 33) (hf : 0 ≤ gI σ (jx ja 4) v2.toNat) (hs : 0 ≤ gI σ (jx ja 5) v2.toNat) (hto : gI σ (ra 38) v1.toNat = v2) (hk : gI σ (jx ja 2) v2.toNat ≠ 8) {Q : Sg → Unit → Prop} {X : Sg → String → Prop} (hQ : ∀ (σ' : Sg) (r : Unit), Rg ra jx rm σ' → Fr ra jx rm [26, 46, 47, 48, 49, 60, 61, 62, 63, 64, 65, 68, 69, 70, 71, 72, 73, 74, 75, 76, 77, 78, 82] [27, 66, 67, 79, 80] σ σ' → (RecE ra jx rm ja σ' ∧ ThE ra rm σ') → Q σ' r) (hX : ∀ (σ' : Sg) (E : String), Rg ra jx rm σ' → Fr ra jx rm [26, 46, 47, 48, 49, 60, 61, 62, 63, 64, 65, 68, 69, 70, 71, 72, 73, 74, 75, 76, 77, 78, 82] [27, 66, 67, 79, 80] σ σ' → (E = "StreamHouseModel$Broken" ∧ ThE ra rm σ' ∧ RecE ra jx rm ja σ') → X σ' E) : wp_X16_takeJoin ra jx rm v1 v2 v3 v4 v6 σ Q X := by
  obtain ⟨g1, g2, g3, g4, g5, g6, g7, g8⟩ := id g
  have fσ : Fr ra jx rm [26, 46, 47, 48, 49, 60, 61, 62, 63, 64, 65, 68, 69, 70, 71, 72, 73, 74, 75, 76, 77, 78, 82] [27, 66, 67, 79, 80] σ σ := Fr.rf
  obtain ⟨own0, ps0, hr0, hm0⟩ := id hre
  unfold wp_X16_takeJoin
  unfold w_X16_takeJoin_0
  try simp only [forall_eq, rII, rIJ, rIP, rJJ, rJI, rJP, rPP, rPI, rPJ, g1, g2, g3, g4, g5, g6, g7, g8, Nat.reduceEqDiff, Nat.reduceAdd, false_and, and_false, true_and, and_true, reduceIte, nZ0, nZ1]
  refine ⟨ja, by exact hj, hja, ?_⟩
  refine ⟨ja, by exact hj, hja, ?_⟩
  refine ⟨by (first | omega | with_reducible assumption | (unfold rng; omega) | (unfold rng; (repeat' split) <;> omega) | grind), ?_⟩
  have q1 := rσ.2.2.1 ja 4 (v2.toNat); simp only [rgJ] at q1
  refine ⟨by (first | omega | with_reducible assumption | (unfold rng; omega) | (unfold rng; (repeat' split) <;> omega) | grind), ?_⟩
  refine ⟨ja, by exact hj, hja, ?_⟩
  refine ⟨ja, by exact hj, hja, ?_⟩
  refine ⟨by (first | omega | with_reducible assumption | (unfold rng; omega) | (unfold rng; (repeat' split) <;> omega) | grind), ?_⟩
  have q2 := rσ.2.2.1 ja 5 (v2.toNat); simp only [rgJ] at q2
  refine ⟨by (first | omega | with_reducible assumption | (unfold rng; omega) | (unfold rng; (repeat' split) <;> omega) | grind), ?_⟩
  split
  · rename_i hc43
    skip
    unfold w_X16_takeJoin_58
    try simp only [forall_eq, rII, rIJ, rIP, rJJ, rJI, rJP, rPP, rPI, rPJ, g1, g2, g3, g4, g5, g6, g7, g8, Nat.reduceEqDiff, Nat.reduceAdd, false_and, and_false, true_and, and_true, reduceIte, nZ0, nZ1]
    refine ⟨ja, by exact hj, hja, ?_⟩
    refine ⟨by (first | omega | with_reducible assumption | (unfold rng; omega) | (unfold rng; (repeat' split) <;> omega) | grind), ?_⟩
    unfold w_X16_takeJoin_67
    try simp only [forall_eq, rII, rIJ, rIP, rJJ, rJI, rJP, rPP, rPI, rPJ, g1, g2, g3, g4, g5, g6, g7, g8, Nat.reduceEqDiff, Nat.reduceAdd, false_and, and_false, true_and, and_true, reduceIte, nZ0, nZ1]
    have q3 := rσ.2.2.1 ja 11 (v2.toNat); simp only [rgJ] at q3
    refine ⟨by (first | omega | with_reducible assumption | (unfold rng; omega) | (unfold rng; (repeat' split) <;> omega) | grind), ?_⟩
    refine ⟨by (first | omega | with_reducible assumption | (unfold rng; omega) | (unfold rng; (repeat' split) <;> omega) | grind), ?_⟩
    have q4 := rσ.2.2.1 ja 6 ((gI σ (jx ja 4) v2.toNat).toNat); simp only [rgJ] at q4
    have q5 := rσ.2.2.1 ja 6 ((gI σ (jx ja 5) v2.toNat).toNat); simp only [rgJ] at q5
    have q6 := rσ.1 76 (v1.toNat); simp only [rgT] at q6
    have L78 : ∀ (fu78 : Nat) (τ78 : Sg) (v11 : Int), Rg ra jx rm τ78 → Fr ra jx rm [26, 46, 47, 48, 49, 60, 61, 62, 63, 64, 65, 68, 69, 70, 71, 72, 73, 74, 75, 76, 77, 78, 82] [27, 66, 67, 79, 80] σ τ78 → (RecI ra rm τ78 own0 ps0 ∧ MtI ra jx ja τ78 own0 ∧ ThE ra rm τ78 ∧ (v11 = -1 ∨ own0 v11 = v1)) → ((if v11 < 0 then 0 else gI τ78 (ra 78) v1.toNat - ps0 v11).toNat) < fu78 → wl_X16_takeJoin_78 ra jx rm Q X fu78 τ78 v1 v2 v3 v4 v6 (gI σ (jx ja 6) (gI σ (jx ja 4) v2.toNat).toNat) (gI σ (jx ja 6) (gI σ (jx ja 5) v2.toNat).toNat) (gJ σ (ra 81) (gI σ (jx ja 11) v2.toNat).toNat) v11 := by
      intro fu78
      induction fu78 with
      | zero => intro τ78 _ _ _ _ h9; omega
      | succ fu78 ih78 =>
        intro τ78 v11 rτ78 fτ78 hi78 hm78
        unfold wl_X16_takeJoin_78
        have eτ78_38 := fτ78.1 38 (by decide)
        have eτ78_81 := fτ78.1 81 (by decide)
        have jτ78 := fτ78.2.2.1
        have pτ78 := fτ78.2.2.2
        unfold w_X16_takeJoin_78
        try simp only [forall_eq, rII, rIJ, rIP, rJJ, rJI, rJP, rPP, rPI, rPJ, g1, g2, g3, g4, g5, g6, g7, g8, Nat.reduceEqDiff, Nat.reduceAdd, false_and, and_false, true_and, and_true, reduceIte, nZ0, nZ1, eτ78_38.1, eτ78_38.2, eτ78_81.1, eτ78_81.2, fun a k => (jτ78 a k).1, fun a k => (jτ78 a k).2, pτ78]
        obtain ⟨hrA, hmA, htA, hnA⟩ := hi78
        split
        · rename_i hc81
          skip
          unfold w_X16_takeJoin_364
          try simp only [forall_eq, rII, rIJ, rIP, rJJ, rJI, rJP, rPP, rPI, rPJ, g1, g2, g3, g4, g5, g6, g7, g8, Nat.reduceEqDiff, Nat.reduceAdd, false_and, and_false, true_and, and_true, reduceIte, nZ0, nZ1, eτ78_38.1, eτ78_38.2, eτ78_81.1, eτ78_81.2, fun a k => (jτ78 a k).1, fun a k => (jτ78 a k).2, pτ78]
          refine s_X16_record (b9 := (ra 81)) (n9 := 8) g rτ78 rfl (Or.inl ⟨81, rfl, by decide⟩) hrA (by (try simp only [rII, rIJ, rIP, rJJ, rJI, rJP, rPP, rPI, rPJ, g1, g2, g3, g4, g5, g6, g7, g8, Nat.reduceEqDiff, Nat.reduceAdd, false_and, and_false, true_and, and_true, reduceIte, nZ0, nZ1, eτ78_38.1, eτ78_38.2, eτ78_81.1, eτ78_81.2, fun a k => (jτ78 a k).1, fun a k => (jτ78 a k).2, pτ78]) <;> (first | omega | with_reducible assumption | (unfold rng; omega) | (unfold rng; (repeat' split) <;> omega) | grind)) (by (try simp only [rII, rIJ, rIP, rJJ, rJI, rJP, rPP, rPI, rPJ, g1, g2, g3, g4, g5, g6, g7, g8, Nat.reduceEqDiff, Nat.reduceAdd, false_and, and_false, true_and, and_true, reduceIte, nZ0, nZ1, eτ78_38.1, eτ78_38.2, eτ78_81.1, eτ78_81.2, fun a k => (jτ78 a k).1, fun a k => (jτ78 a k).2, pτ78]) <;> (first | omega | with_reducible assumption | (unfold rng; omega) | (unfold rng; (repeat' split) <;> omega) | grind)) h4 (by (try simp only [rII, rIJ, rIP, rJJ, rJI, rJP, rPP, rPI, rPJ, g1, g2, g3, g4, g5, g6, g7, g8, Nat.reduceEqDiff, Nat.reduceAdd, false_and, and_false, true_and, and_true, reduceIte, nZ0, nZ1, eτ78_38.1, eτ78_38.2, eτ78_81.1, eτ78_81.2, fun a k => (jτ78 a k).1, fun a k => (jτ78 a k).2, pτ78]) <;> (first | omega | with_reducible assumption | (unfold rng; omega) | (unfold rng; (repeat' split) <;> omega) | grind)) (by (try simp only [rII, rIJ, rIP, rJJ, rJI, rJP, rPP, rPI, rPJ, g1, g2, g3, g4, g5, g6, g7, g8, Nat.reduceEqDiff, Nat.reduceAdd, false_and, and_false, true_and, and_true, reduceIte, nZ0, nZ1, eτ78_38.1, eτ78_38.2, eτ78_81.1, eτ78_81.2, fun a k => (jτ78 a k).1, fun a k => (jτ78 a k).2, pτ78]) <;> (first | omega | with_reducible assumption | (unfold rng; omega) | (unfold rng; (repeat' split) <;> omega) | grind)) (by (try simp only [rII, rIJ, rIP, rJJ, rJI, rJP, rPP, rPI, rPJ, g1, g2, g3, g4, g5, g6, g7, g8, Nat.reduceEqDiff, Nat.reduceAdd, false_and, and_false, true_and, and_true, reduceIte, nZ0, nZ1, eτ78_38.1, eτ78_38.2, eτ78_81.1, eτ78_81.2, fun a k => (jτ78 a k).1, fun a k => (jτ78 a k).2, pτ78]) <;> (first | omega | with_reducible assumption | (unfold rng; omega) | (unfold rng; (repeat' split) <;> omega) | grind)) (fun σ46 r47 rσ46 fc p7 => ?_) (fun σx E rx fx px => hX _ _ rx (Fr.tr fτ78 (Fr.mor (fx) (by decide) (by decide))) (by obtain ⟨e1, e2⟩ := px; subst e2; exact ⟨e1, htA, _, _, hrA, hmA⟩))
          have fσ46 : Fr ra jx rm [26, 46, 47, 48, 49, 60, 61, 62, 63, 64, 65, 68, 69, 70, 71, 72, 73, 74, 75, 76, 77, 78, 82] [27, 66, 67, 79, 80] σ σ46 := Fr.tr fτ78 (Fr.mor (fc) (by decide) (by decide))
          have me8 := MtI.more hmA fc (by decide) h1 p7.2.2.2.1 p7.2.2.2.2.1 p7.2.2.2.2.2 (fun a ha => (hrA.2.2.1 a (by omega)).1) (fun q => absurd (show gI σ (jx ja 2) v2.toNat = 8 by simpa only [rII, rIJ, rIP, rJJ, rJI, rJP, rPP, rPI, rPJ, g1, g2, g3, g4, g5, g6, g7, g8, Nat.reduceEqDiff, Nat.reduceAdd, false_and, and_false, true_and, and_true, reduceIte, nZ0, nZ1, eτ78_38.1, eτ78_38.2, eτ78_81.1, eτ78_81.2, fun a k => (jτ78 a k).1, fun a k => (jτ78 a k).2, pτ78, hto] using q) hk)
          have re8 := p7.1
          have te8 := ThE.fr htA fc (by decide) (by decide)
          have eσ46_38 := fσ46.1 38 (by decide)
          have eσ46_81 := fσ46.1 81 (by decide)
          have jσ46 := fσ46.2.2.1
          have pσ46 := fσ46.2.2.2
          try simp only [forall_eq, rII, rIJ, rIP, rJJ, rJI, rJP, rPP, rPI, rPJ, g1, g2, g3, g4, g5, g6, g7, g8, Nat.reduceEqDiff, Nat.reduceAdd, false_and, and_false, true_and, and_true, reduceIte, nZ0, nZ1, eσ46_38.1, eσ46_38.2, eσ46_81.1, eσ46_81.2, fun a k => (jσ46 a k).1, fun a k => (jσ46 a k).2, pσ46]
          refine hQ _ _ ?_ ?_ ?_
          · exact rσ46
          · exact fσ46
          · exact ⟨⟨_, _, re8, me8⟩, te8⟩
        · rename_i hc81
          skip
          unfold w_X16_takeJoin_84
          try simp only [forall_eq, rII, rIJ, rIP, rJJ, rJI, rJP, rPP, rPI, rPJ, g1, g2, g3, g4, g5, g6, g7, g8, Nat.reduceEqDiff, Nat.reduceAdd, false_and, and_false, true_and, and_true, reduceIte, nZ0, nZ1, eτ78_38.1, eτ78_38.2, eτ78_81.1, eτ78_81.2, fun a k => (jτ78 a k).1, fun a k => (jτ78 a k).2, pτ78]
          have hov := hnA.resolve_left (by assumption)
          have n11 := hrA.nd hov h1
          refine ⟨by (first | omega | with_reducible assumption | (unfold rng; omega) | (unfold rng; (repeat' split) <;> omega) | grind), ?_⟩
          have q8 := rτ78.1 68 (v11.toNat); simp only [rgT] at q8
          split
          · rename_i hc92
            skip
            unfold w_X16_takeJoin_352
            try simp only [forall_eq, rII, rIJ, rIP, rJJ, rJI, rJP, rPP, rPI, rPJ, g1, g2, g3, g4, g5, g6, g7, g8, Nat.reduceEqDiff, Nat.reduceAdd, false_and, and_false, true_and, and_true, reduceIte, nZ0, nZ1, eτ78_38.1, eτ78_38.2, eτ78_81.1, eτ78_81.2, fun a k => (jτ78 a k).1, fun a k => (jτ78 a k).2, pτ78]
            have n9 := RecI.nd (by assumption) hov h1
            have n91 := n9.1; have n92 := n9.2.1; have n93 := n9.2.2.1; have n94 := n9.2.2.2
            refine ⟨by (first | omega | with_reducible assumption | (unfold rng; omega) | (unfold rng; (repeat' split) <;> omega) | grind), ?_⟩
            have q9 := rτ78.1 75 (v11.toNat); simp only [rgT] at q9
            refine ih78 _ _ ?_ ?_ ?_ ?_
            · exact rτ78
            · exact fτ78
            · first | exact ⟨hr0, hm0, hth, hr0.hd h1⟩ | (refine ⟨by with_reducible assumption, by with_reducible assumption, by with_reducible assumption, ?_⟩; exact n9.2.2.2.elim (fun q => Or.inl q.2) (fun q => Or.inr q.2.1))
            · (try simp only [rII, rIJ, rIP, rJJ, rJI, rJP, rPP, rPI, rPJ, g1, g2, g3, g4, g5, g6, g7, g8, Nat.reduceEqDiff, Nat.reduceAdd, false_and, and_false, true_and, and_true, reduceIte, nZ0, nZ1, eτ78_38.1, eτ78_38.2, eτ78_81.1, eτ78_81.2, fun a k => (jτ78 a k).1, fun a k => (jτ78 a k).2, pτ78]) <;> (first | omega | with_reducible assumption | (unfold rng; omega) | (unfold rng; (repeat' split) <;> omega) | grind)
          · rename_i hc92
            skip
            unfold w_X16_takeJoin_95
            try simp only [forall_eq, rII, rIJ, rIP, rJJ, rJI, rJP, rPP, rPI, rPJ, g1, g2, g3, g4, g5, g6, g7, g8, Nat.reduceEqDiff, Nat.reduceAdd, false_and, and_false, true_and, and_true, reduceIte, nZ0, nZ1, eτ78_38.1, eτ78_38.2, eτ78_81.1, eτ78_81.2, fun a k => (jτ78 a k).1, fun a k => (jτ78 a k).2, pτ78]
            refine ⟨by (first | omega | with_reducible assumption | (unfold rng; omega) | (unfold rng; (repeat' split) <;> omega) | grind), ?_⟩
            split
            · rename_i hc105
              skip
              unfold w_X16_takeJoin_111
              try simp only [forall_eq, rII, rIJ, rIP, rJJ, rJI, rJP, rPP, rPI, rPJ, g1, g2, g3, g4, g5, g6, g7, g8, Nat.reduceEqDiff, Nat.reduceAdd, false_and, and_false, true_and, and_true, reduceIte, nZ0, nZ1, eτ78_38.1, eτ78_38.2, eτ78_81.1, eτ78_81.2, fun a k => (jτ78 a k).1, fun a k => (jτ78 a k).2, pτ78]
              rw [if_pos hc43]
              unfold w_X16_takeJoin_128
              try simp only [forall_eq, rII, rIJ, rIP, rJJ, rJI, rJP, rPP, rPI, rPJ, g1, g2, g3, g4, g5, g6, g7, g8, Nat.reduceEqDiff, Nat.reduceAdd, false_and, and_false, true_and, and_true, reduceIte, nZ0, nZ1, eτ78_38.1, eτ78_38.2, eτ78_81.1, eτ78_81.2, fun a k => (jτ78 a k).1, fun a k => (jτ78 a k).2, pτ78]
              refine ⟨by (first | omega | with_reducible assumption | (unfold rng; omega) | (unfold rng; (repeat' split) <;> omega) | grind), ?_⟩
              unfold w_X16_takeJoin_138
              try simp only [forall_eq, rII, rIJ, rIP, rJJ, rJI, rJP, rPP, rPI, rPJ, g1, g2, g3, g4, g5, g6, g7, g8, Nat.reduceEqDiff, Nat.reduceAdd, false_and, and_false, true_and, and_true, reduceIte, nZ0, nZ1, eτ78_38.1, eτ78_38.2, eτ78_81.1, eτ78_81.2, fun a k => (jτ78 a k).1, fun a k => (jτ78 a k).2, pτ78]
              refine ⟨ja, by exact hj, hja, ?_⟩
              refine ⟨by (first | omega | with_reducible assumption | (unfold rng; omega) | (unfold rng; (repeat' split) <;> omega) | grind), ?_⟩
              refine ⟨ja, by exact hj, hja, ?_⟩
              refine ⟨by (first | omega | with_reducible assumption | (unfold rng; omega) | (unfold rng; (repeat' split) <;> omega) | grind), ?_⟩
              refine s_X16_within g rτ78 (fun r51 p10 => ?_)
              obtain ⟨p10, p10b⟩ := p10
              try simp only [forall_eq, rII, rIJ, rIP, rJJ, rJI, rJP, rPP, rPI, rPJ, g1, g2, g3, g4, g5, g6, g7, g8, Nat.reduceEqDiff, Nat.reduceAdd, false_and, and_false, true_and, and_true, reduceIte, nZ0, nZ1, eτ78_38.1, eτ78_38.2, eτ78_81.1, eτ78_81.2, fun a k => (jτ78 a k).1, fun a k => (jτ78 a k).2, pτ78]
              split
              · rename_i hc163
                skip
                unfold w_X16_takeJoin_169
                try simp only [forall_eq, rII, rIJ, rIP, rJJ, rJI, rJP, rPP, rPI, rPJ, g1, g2, g3, g4, g5, g6, g7, g8, Nat.reduceEqDiff, Nat.reduceAdd, false_and, and_false, true_and, and_true, reduceIte, nZ0, nZ1, eτ78_38.1, eτ78_38.2, eτ78_81.1, eτ78_81.2, fun a k => (jτ78 a k).1, fun a k => (jτ78 a k).2, pτ78]
                have L172 : ∀ (fu172 : Nat) (τ172 : Sg) (v14 : Int), Rg ra jx rm τ172 → Fr ra jx rm [26, 46, 47, 48, 49, 60, 61, 62, 63, 64, 65, 68, 69, 70, 71, 72, 73, 74, 75, 76, 77, 78, 82] [27, 66, 67, 79, 80] σ τ172 → (RecI ra rm τ172 own0 ps0 ∧ MtI ra jx ja τ172 own0 ∧ ThE ra rm τ172 ∧ gI τ172 (ra 78) v1.toNat = gI τ78 (ra 78) v1.toNat ∧ 0 ≤ v14 ∧ v14 ≤ 8) → ((8 - v14).toNat) < fu172 → wl_X16_takeJoin_172 ra jx rm (wl_X16_takeJoin_78 ra jx rm Q X fu78) Q X fu172 τ172 v1 v2 v3 v4 v6 (gI σ (jx ja 6) (gI σ (jx ja 4) v2.toNat).toNat) (gI σ (jx ja 6) (gI σ (jx ja 5) v2.toNat).toNat) (gJ σ (ra 81) (gI σ (jx ja 11) v2.toNat).toNat) v11 v14 := by
                  intro fu172
                  induction fu172 with
                  | zero => intro τ172 _ _ _ _ h9; omega
                  | succ fu172 ih172 =>
                    intro τ172 v14 rτ172 fτ172 hi172 hm172
                    unfold wl_X16_takeJoin_172
                    have eτ172_38 := fτ172.1 38 (by decide)
                    have eτ172_81 := fτ172.1 81 (by decide)
                    have jτ172 := fτ172.2.2.1
                    have pτ172 := fτ172.2.2.2
                    unfold w_X16_takeJoin_172
                    try simp only [forall_eq, rII, rIJ, rIP, rJJ, rJI, rJP, rPP, rPI, rPJ, g1, g2, g3, g4, g5, g6, g7, g8, Nat.reduceEqDiff, Nat.reduceAdd, false_and, and_false, true_and, and_true, reduceIte, nZ0, nZ1, eτ172_38.1, eτ172_38.2, eτ172_81.1, eτ172_81.2, fun a k => (jτ172 a k).1, fun a k => (jτ172 a k).2, pτ172]
                    obtain ⟨r2, m2, t2, k2, k3, k4⟩ := hi172
                    split
                    · rename_i hc176
                      skip
                      unfold w_X16_takeJoin_193
                      try simp only [forall_eq, rII, rIJ, rIP, rJJ, rJI, rJP, rPP, rPI, rPJ, g1, g2, g3, g4, g5, g6, g7, g8, Nat.reduceEqDiff, Nat.reduceAdd, false_and, and_false, true_and, and_true, reduceIte, nZ0, nZ1, eτ172_38.1, eτ172_38.2, eτ172_81.1, eτ172_81.2, fun a k => (jτ172 a k).1, fun a k => (jτ172 a k).2, pτ172]
                      have L196 : ∀ (fu196 : Nat) (τ196 : Sg) (v14 : Int), Rg ra jx rm τ196 → Fr ra jx rm [26, 46, 47, 48, 49, 60, 61, 62, 63, 64, 65, 68, 69, 70, 71, 72, 73, 74, 75, 76, 77, 78, 82] [27, 66, 67, 79, 80] σ τ196 → (RecI ra rm τ196 own0 ps0 ∧ MtI ra jx ja τ196 own0 ∧ ThE ra rm τ196 ∧ gI τ196 (ra 78) v1.toNat = gI τ78 (ra 78) v1.toNat ∧ 0 ≤ v14 ∧ v14 ≤ (gI σ (jx ja 6) (gI σ (jx ja 4) v2.toNat).toNat)) → (((gI σ (jx ja 6) (gI σ (jx ja 4) v2.toNat).toNat) - v14).toNat) < fu196 → wl_X16_takeJoin_196 ra jx rm (wl_X16_takeJoin_78 ra jx rm Q X fu78) Q X fu196 τ196 v1 v2 v3 v4 v6 (gI σ (jx ja 6) (gI σ (jx ja 4) v2.toNat).toNat) (gI σ (jx ja 6) (gI σ (jx ja 5) v2.toNat).toNat) (gJ σ (ra 81) (gI σ (jx ja 11) v2.toNat).toNat) v11 v14 := by
                        intro fu196
                        induction fu196 with
                        | zero => intro τ196 _ _ _ _ h9; omega
                        | succ fu196 ih196 =>
                          intro τ196 v14 rτ196 fτ196 hi196 hm196
                          unfold wl_X16_takeJoin_196
                          have eτ196_38 := fτ196.1 38 (by decide)
                          have eτ196_81 := fτ196.1 81 (by decide)
                          have jτ196 := fτ196.2.2.1
                          have pτ196 := fτ196.2.2.2
                          unfold w_X16_takeJoin_196
                          try simp only [forall_eq, rII, rIJ, rIP, rJJ, rJI, rJP, rPP, rPI, rPJ, g1, g2, g3, g4, g5, g6, g7, g8, Nat.reduceEqDiff, Nat.reduceAdd, false_and, and_false, true_and, and_true, reduceIte, nZ0, nZ1, eτ196_38.1, eτ196_38.2, eτ196_81.1, eτ196_81.2, fun a k => (jτ196 a k).1, fun a k => (jτ196 a k).2, pτ196]
                          obtain ⟨r3, m3, t3, k5, k6, k7⟩ := hi196
                          split
                          · rename_i hc200
                            skip
                            unfold w_X16_takeJoin_243
                            try simp only [forall_eq, rII, rIJ, rIP, rJJ, rJI, rJP, rPP, rPI, rPJ, g1, g2, g3, g4, g5, g6, g7, g8, Nat.reduceEqDiff, Nat.reduceAdd, false_and, and_false, true_and, and_true, reduceIte, nZ0, nZ1, eτ196_38.1, eτ196_38.2, eτ196_81.1, eτ196_81.2, fun a k => (jτ196 a k).1, fun a k => (jτ196 a k).2, pτ196]
                            have L246 : ∀ (fu246 : Nat) (τ246 : Sg) (v14 : Int), Rg ra jx rm τ246 → Fr ra jx rm [26, 46, 47, 48, 49, 60, 61, 62, 63, 64, 65, 68, 69, 70, 71, 72, 73, 74, 75, 76, 77, 78, 82] [27, 66, 67, 79, 80] σ τ246 → (RecI ra rm τ246 own0 ps0 ∧ MtI ra jx ja τ246 own0 ∧ ThE ra rm τ246 ∧ gI τ246 (ra 78) v1.toNat = gI τ78 (ra 78) v1.toNat ∧ 0 ≤ v14 ∧ v14 ≤ (gI σ (jx ja 6) (gI σ (jx ja 5) v2.toNat).toNat)) → (((gI σ (jx ja 6) (gI σ (jx ja 5) v2.toNat).toNat) - v14).toNat) < fu246 → wl_X16_takeJoin_246 ra jx rm (wl_X16_takeJoin_78 ra jx rm Q X fu78) Q X fu246 τ246 v1 v2 v3 v4 v6 (gI σ (jx ja 6) (gI σ (jx ja 4) v2.toNat).toNat) (gI σ (jx ja 6) (gI σ (jx ja 5) v2.toNat).toNat) (gJ σ (ra 81) (gI σ (jx ja 11) v2.toNat).toNat) v11 v14 := by
                              intro fu246
                              induction fu246 with
                              | zero => intro τ246 _ _ _ _ h9; omega
                              | succ fu246 ih246 =>
                                intro τ246 v14 rτ246 fτ246 hi246 hm246
                                unfold wl_X16_takeJoin_246
                                have eτ246_38 := fτ246.1 38 (by decide)
                                have eτ246_81 := fτ246.1 81 (by decide)
                                have jτ246 := fτ246.2.2.1
                                have pτ246 := fτ246.2.2.2
                                unfold w_X16_takeJoin_246
                                try simp only [forall_eq, rII, rIJ, rIP, rJJ, rJI, rJP, rPP, rPI, rPJ, g1, g2, g3, g4, g5, g6, g7, g8, Nat.reduceEqDiff, Nat.reduceAdd, false_and, and_false, true_and, and_true, reduceIte, nZ0, nZ1, eτ246_38.1, eτ246_38.2, eτ246_81.1, eτ246_81.2, fun a k => (jτ246 a k).1, fun a k => (jτ246 a k).2, pτ246]
                                obtain ⟨r4, m4, t4, k8, k9, k10⟩ := hi246
                                split
                                · rename_i hc250
                                  skip
                                  unfold w_X16_takeJoin_297
                                  try simp only [forall_eq, rII, rIJ, rIP, rJJ, rJI, rJP, rPP, rPI, rPJ, g1, g2, g3, g4, g5, g6, g7, g8, Nat.reduceEqDiff, Nat.reduceAdd, false_and, and_false, true_and, and_true, reduceIte, nZ0, nZ1, eτ246_38.1, eτ246_38.2, eτ246_81.1, eτ246_81.2, fun a k => (jτ246 a k).1, fun a k => (jτ246 a k).2, pτ246]
                                  refine ⟨by (first | omega | with_reducible assumption | (unfold rng; omega) | (unfold rng; (repeat' split) <;> omega) | grind), ?_⟩
                                  rw [if_pos hc43]
                                  unfold w_X16_takeJoin_336
                                  try simp only [forall_eq, rII, rIJ, rIP, rJJ, rJI, rJP, rPP, rPI, rPJ, g1, g2, g3, g4, g5, g6, g7, g8, Nat.reduceEqDiff, Nat.reduceAdd, false_and, and_false, true_and, and_true, reduceIte, nZ0, nZ1, eτ246_38.1, eτ246_38.2, eτ246_81.1, eτ246_81.2, fun a k => (jτ246 a k).1, fun a k => (jτ246 a k).2, pτ246]
                                  refine ⟨by (first | omega | with_reducible assumption | (unfold rng; omega) | (unfold rng; (repeat' split) <;> omega) | grind), ?_⟩
                                  have q11 := rτ246.1 74 (v11.toNat); simp only [rgT] at q11
                                  refine s_X16_joined g rτ246 (by (try simp only [rII, rIJ, rIP, rJJ, rJI, rJP, rPP, rPI, rPJ, g1, g2, g3, g4, g5, g6, g7, g8, Nat.reduceEqDiff, Nat.reduceAdd, false_and, and_false, true_and, and_true, reduceIte, nZ0, nZ1, eτ246_38.1, eτ246_38.2, eτ246_81.1, eτ246_81.2, fun a k => (jτ246 a k).1, fun a k => (jτ246 a k).2, pτ246]) <;> (first | omega | with_reducible assumption | (unfold rng; omega) | (unfold rng; (repeat' split) <;> omega) | grind)) (by (try simp only [rII, rIJ, rIP, rJJ, rJI, rJP, rPP, rPI, rPJ, g1, g2, g3, g4, g5, g6, g7, g8, Nat.reduceEqDiff, Nat.reduceAdd, false_and, and_false, true_and, and_true, reduceIte, nZ0, nZ1, eτ246_38.1, eτ246_38.2, eτ246_81.1, eτ246_81.2, fun a k => (jτ246 a k).1, fun a k => (jτ246 a k).2, pτ246]) <;> (first | omega | with_reducible assumption | (unfold rng; omega) | (unfold rng; (repeat' split) <;> omega) | grind)) (fun σ52 r53 rσ52 fc p12 => ?_) (fun σx E rx fx px => hX _ _ rx (Fr.tr fτ246 (Fr.mor (fx) (by decide) (by decide))) ⟨px, ThE.fr (by assumption) fx (by decide) (by decide), _, _, RecI.fr (by assumption) fx (by decide) (by decide), MtI.fr (by assumption) fx (by decide)⟩)
                                  have fσ52 : Fr ra jx rm [26, 46, 47, 48, 49, 60, 61, 62, 63, 64, 65, 68, 69, 70, 71, 72, 73, 74, 75, 76, 77, 78, 82] [27, 66, 67, 79, 80] σ σ52 := Fr.tr fτ246 (Fr.mor (fc) (by decide) (by decide))
                                  have r1 := RecI.fr r4 fc (by decide) (by decide)
                                  have m1 := MtI.fr m4 fc (by decide)
                                  have t1 := ThE.fr t4 fc (by decide) (by decide)
                                  have e78j := congrFun (fc.1 78 (by decide)).1 v1.toNat
                                  have eσ52_38 := fσ52.1 38 (by decide)
                                  have eσ52_81 := fσ52.1 81 (by decide)
                                  have jσ52 := fσ52.2.2.1
                                  have pσ52 := fσ52.2.2.2
                                  try simp only [forall_eq, rII, rIJ, rIP, rJJ, rJI, rJP, rPP, rPI, rPJ, g1, g2, g3, g4, g5, g6, g7, g8, Nat.reduceEqDiff, Nat.reduceAdd, false_and, and_false, true_and, and_true, reduceIte, nZ0, nZ1, eσ52_38.1, eσ52_38.2, eσ52_81.1, eσ52_81.2, fun a k => (jσ52 a k).1, fun a k => (jσ52 a k).2, pσ52]
                                  unfold w_X16_takeJoin_349
                                  try simp only [forall_eq, rII, rIJ, rIP, rJJ, rJI, rJP, rPP, rPI, rPJ, g1, g2, g3, g4, g5, g6, g7, g8, Nat.reduceEqDiff, Nat.reduceAdd, false_and, and_false, true_and, and_true, reduceIte, nZ0, nZ1, eσ52_38.1, eσ52_38.2, eσ52_81.1, eσ52_81.2, fun a k => (jσ52 a k).1, fun a k => (jσ52 a k).2, pσ52]
                                  refine s_X16_emit (b4 := (ra 82)) (n4 := 16) g rσ52 (by first | exact hj | (rw [fσ52.2.2.2]; exact hj)) hja rfl (Or.inl ⟨82, rfl, by decide⟩) (by assumption) (by (try simp only [rII, rIJ, rIP, rJJ, rJI, rJP, rPP, rPI, rPJ, g1, g2, g3, g4, g5, g6, g7, g8, Nat.reduceEqDiff, Nat.reduceAdd, false_and, and_false, true_and, and_true, reduceIte, nZ0, nZ1, eσ52_38.1, eσ52_38.2, eσ52_81.1, eσ52_81.2, fun a k => (jσ52 a k).1, fun a k => (jσ52 a k).2, pσ52]) <;> (first | omega | with_reducible assumption | (unfold rng; omega) | (unfold rng; (repeat' split) <;> omega) | grind)) (by (try simp only [rII, rIJ, rIP, rJJ, rJI, rJP, rPP, rPI, rPJ, g1, g2, g3, g4, g5, g6, g7, g8, Nat.reduceEqDiff, Nat.reduceAdd, false_and, and_false, true_and, and_true, reduceIte, nZ0, nZ1, eσ52_38.1, eσ52_38.2, eσ52_81.1, eσ52_81.2, fun a k => (jσ52 a k).1, fun a k => (jσ52 a k).2, pσ52]) <;> (unfold maxJ; split <;> first | exact h4 | exact rτ246.2.2.2 71 _)) (by (try simp only [rII, rIJ, rIP, rJJ, rJI, rJP, rPP, rPI, rPJ, g1, g2, g3, g4, g5, g6, g7, g8, Nat.reduceEqDiff, Nat.reduceAdd, false_and, and_false, true_and, and_true, reduceIte, nZ0, nZ1, eσ52_38.1, eσ52_38.2, eσ52_81.1, eσ52_81.2, fun a k => (jσ52 a k).1, fun a k => (jσ52 a k).2, pσ52]) <;> (first | omega | with_reducible assumption | (unfold rng; omega) | (unfold rng; (repeat' split) <;> omega) | grind)) (by (try simp only [rII, rIJ, rIP, rJJ, rJI, rJP, rPP, rPI, rPJ, g1, g2, g3, g4, g5, g6, g7, g8, Nat.reduceEqDiff, Nat.reduceAdd, false_and, and_false, true_and, and_true, reduceIte, nZ0, nZ1, eσ52_38.1, eσ52_38.2, eσ52_81.1, eσ52_81.2, fun a k => (jσ52 a k).1, fun a k => (jσ52 a k).2, pσ52]) <;> (first | omega | with_reducible assumption | (unfold rng; omega) | (unfold rng; (repeat' split) <;> omega) | grind)) (by (try simp only [rII, rIJ, rIP, rJJ, rJI, rJP, rPP, rPI, rPJ, g1, g2, g3, g4, g5, g6, g7, g8, Nat.reduceEqDiff, Nat.reduceAdd, false_and, and_false, true_and, and_true, reduceIte, nZ0, nZ1, eσ52_38.1, eσ52_38.2, eσ52_81.1, eσ52_81.2, fun a k => (jσ52 a k).1, fun a k => (jσ52 a k).2, pσ52]) <;> (first | omega | with_reducible assumption | (unfold rng; omega) | (unfold rng; (repeat' split) <;> omega) | grind)) (by (try simp only [rII, rIJ, rIP, rJJ, rJI, rJP, rPP, rPI, rPJ, g1, g2, g3, g4, g5, g6, g7, g8, Nat.reduceEqDiff, Nat.reduceAdd, false_and, and_false, true_and, and_true, reduceIte, nZ0, nZ1, eσ52_38.1, eσ52_38.2, eσ52_81.1, eσ52_81.2, fun a k => (jσ52 a k).1, fun a k => (jσ52 a k).2, pσ52]) <;> first | exact hp | (rw [(fσ52.2.1 33 (by decide)).1]; exact hp)) (fun σ54 _ rσ54 fc p13 => ?_) (fun σx E rx fx px => hX _ _ rx (Fr.tr fσ52 (Fr.mor (fx) (by decide) (by decide))) ⟨px.1, px.2, _, _, RecI.fr (by assumption) fx (by decide) (by decide), MtI.fr (by assumption) fx (by decide)⟩)
                                  have fσ54 : Fr ra jx rm [26, 46, 47, 48, 49, 60, 61, 62, 63, 64, 65, 68, 69, 70, 71, 72, 73, 74, 75, 76, 77, 78, 82] [27, 66, 67, 79, 80] σ σ54 := Fr.tr fσ52 (Fr.mor (fc) (by decide) (by decide))
                                  have pe9 := p13
                                  have re9 := RecI.fr (by assumption) fc (by decide) (by decide)
                                  have me9 := MtI.fr (by assumption) fc (by decide)
                                  have e78e := congrFun (fc.1 78 (by decide)).1 v1.toNat
                                  have eσ54_38 := fσ54.1 38 (by decide)
                                  have eσ54_81 := fσ54.1 81 (by decide)
                                  have jσ54 := fσ54.2.2.1
                                  have pσ54 := fσ54.2.2.2
                                  try simp only [forall_eq, rII, rIJ, rIP, rJJ, rJI, rJP, rPP, rPI, rPJ, g1, g2, g3, g4, g5, g6, g7, g8, Nat.reduceEqDiff, Nat.reduceAdd, false_and, and_false, true_and, and_true, reduceIte, nZ0, nZ1, eσ54_38.1, eσ54_38.2, eσ54_81.1, eσ54_81.2, fun a k => (jσ54 a k).1, fun a k => (jσ54 a k).2, pσ54]
                                  unfold w_X16_takeJoin_352
                                  try simp only [forall_eq, rII, rIJ, rIP, rJJ, rJI, rJP, rPP, rPI, rPJ, g1, g2, g3, g4, g5, g6, g7, g8, Nat.reduceEqDiff, Nat.reduceAdd, false_and, and_false, true_and, and_true, reduceIte, nZ0, nZ1, eσ54_38.1, eσ54_38.2, eσ54_81.1, eσ54_81.2, fun a k => (jσ54 a k).1, fun a k => (jσ54 a k).2, pσ54]
                                  have n9 := RecI.nd (by assumption) hov h1
                                  have n91 := n9.1; have n92 := n9.2.1; have n93 := n9.2.2.1; have n94 := n9.2.2.2
                                  refine ⟨by (first | omega | with_reducible assumption | (unfold rng; omega) | (unfold rng; (repeat' split) <;> omega) | grind), ?_⟩
                                  have q14 := rσ54.1 75 (v11.toNat); simp only [rgT] at q14
                                  refine ih78 _ _ ?_ ?_ ?_ ?_
                                  · exact rσ54
                                  · exact fσ54
                                  · first | exact ⟨hr0, hm0, hth, hr0.hd h1⟩ | (refine ⟨by with_reducible assumption, by with_reducible assumption, by with_reducible assumption, ?_⟩; exact n9.2.2.2.elim (fun q => Or.inl q.2) (fun q => Or.inr q.2.1))
                                  · (try simp only [rII, rIJ, rIP, rJJ, rJI, rJP, rPP, rPI, rPJ, g1, g2, g3, g4, g5, g6, g7, g8, Nat.reduceEqDiff, Nat.reduceAdd, false_and, and_false, true_and, and_true, reduceIte, nZ0, nZ1, eσ54_38.1, eσ54_38.2, eσ54_81.1, eσ54_81.2, fun a k => (jσ54 a k).1, fun a k => (jσ54 a k).2, pσ54]) <;> (first | omega | with_reducible assumption | (unfold rng; omega) | (unfold rng; (repeat' split) <;> omega) | grind)
                                · rename_i hc250
                                  skip
                                  unfold w_X16_takeJoin_253
                                  try simp only [forall_eq, rII, rIJ, rIP, rJJ, rJI, rJP, rPP, rPI, rPJ, g1, g2, g3, g4, g5, g6, g7, g8, Nat.reduceEqDiff, Nat.reduceAdd, false_and, and_false, true_and, and_true, reduceIte, nZ0, nZ1, eτ246_38.1, eτ246_38.2, eτ246_81.1, eτ246_81.2, fun a k => (jτ246 a k).1, fun a k => (jτ246 a k).2, pτ246]
                                  refine ⟨by (first | omega | with_reducible assumption | (unfold rng; omega) | (unfold rng; (repeat' split) <;> omega) | grind), ?_⟩
                                  split
                                  · rename_i hc264
                                    skip
                                    unfold w_X16_takeJoin_277
                                    try simp only [forall_eq, rII, rIJ, rIP, rJJ, rJI, rJP, rPP, rPI, rPJ, g1, g2, g3, g4, g5, g6, g7, g8, Nat.reduceEqDiff, Nat.reduceAdd, false_and, and_false, true_and, and_true, reduceIte, nZ0, nZ1, eτ246_38.1, eτ246_38.2, eτ246_81.1, eτ246_81.2, fun a k => (jτ246 a k).1, fun a k => (jτ246 a k).2, pτ246]
                                    refine ⟨by (first | omega | with_reducible assumption | (unfold rng; omega) | (unfold rng; (repeat' split) <;> omega) | grind), ?_⟩
                                    refine ⟨by (first | omega | with_reducible assumption | (unfold rng; omega) | (unfold rng; (repeat' split) <;> omega) | grind), ?_⟩
                                    refine ⟨by (first | omega | with_reducible assumption | (unfold rng; omega) | (unfold rng; (repeat' split) <;> omega) | grind), ?_⟩
                                    unfold w_X16_takeJoin_290
                                    try simp only [forall_eq, rII, rIJ, rIP, rJJ, rJI, rJP, rPP, rPI, rPJ, g1, g2, g3, g4, g5, g6, g7, g8, Nat.reduceEqDiff, Nat.reduceAdd, false_and, and_false, true_and, and_true, reduceIte, nZ0, nZ1, eτ246_38.1, eτ246_38.2, eτ246_81.1, eτ246_81.2, fun a k => (jτ246 a k).1, fun a k => (jτ246 a k).2, pτ246]
                                    refine ⟨by (first | omega | with_reducible assumption | (unfold rng; omega) | (unfold rng; (repeat' split) <;> omega) | grind), ?_⟩
                                    refine ⟨by (first | omega | with_reducible assumption | (unfold rng; omega) | (unfold rng; (repeat' split) <;> omega) | grind), ?_⟩
                                    refine ih246 _ _ ?_ ?_ ?_ ?_
                                    · refine Rg.aJ g ?_ (by simp only [rlT]; first | with_reducible assumption | omega | exact Int64.toInt_le _ | (rw [Int64.toInt_ofInt_of_le (by omega) (by omega)]; omega) | grind); exact rτ246
                                    · refine Fr.aJ g ?_ (by decide); exact fτ246
                                    · refine ⟨?_, ?_, ?_, ?_, ?_, ?_⟩ <;> (first | with_reducible assumption | omega | exact RecI.fr (jx := jx) (K := [82]) (S := []) (by assumption) (by repeat (first | exact Fr.rf | assumption | refine Fr.aJ g ?_ (by decide) | refine Fr.aI g ?_ (by decide) | refine Fr.sI g ?_ (by decide) | refine Fr.sJ g ?_ (by decide))) (by decide) (by decide) | exact MtI.fr (rm := rm) (K := [82]) (S := []) (by assumption) (by repeat (first | exact Fr.rf | assumption | refine Fr.aJ g ?_ (by decide) | refine Fr.aI g ?_ (by decide) | refine Fr.sI g ?_ (by decide) | refine Fr.sJ g ?_ (by decide))) (by decide) | exact ThE.fr (jx := jx) (K := [82]) (S := []) (by assumption) (by repeat (first | exact Fr.rf | assumption | refine Fr.aJ g ?_ (by decide) | refine Fr.aI g ?_ (by decide) | refine Fr.sI g ?_ (by decide) | refine Fr.sJ g ?_ (by decide))) (by decide) (by decide) | exact HeE.fr (jx := jx) (K := [82]) (S := []) (by assumption) (by repeat (first | exact Fr.rf | assumption | refine Fr.aJ g ?_ (by decide) | refine Fr.aI g ?_ (by decide) | refine Fr.sI g ?_ (by decide) | refine Fr.sJ g ?_ (by decide))) (by decide) (by decide) | ((try simp only [rII, rIJ, rIP, rJJ, rJI, rJP, rPP, rPI, rPJ, g1, g2, g3, g4, g5, g6, g7, g8, Nat.reduceEqDiff, Nat.reduceAdd, false_and, and_false, true_and, and_true, reduceIte, nZ0, nZ1, eτ246_38.1, eτ246_38.2, eτ246_81.1, eτ246_81.2, fun a k => (jτ246 a k).1, fun a k => (jτ246 a k).2, pτ246]) <;> first | omega | assumption | grind))
                                    · (try simp only [rII, rIJ, rIP, rJJ, rJI, rJP, rPP, rPI, rPJ, g1, g2, g3, g4, g5, g6, g7, g8, Nat.reduceEqDiff, Nat.reduceAdd, false_and, and_false, true_and, and_true, reduceIte, nZ0, nZ1, eτ246_38.1, eτ246_38.2, eτ246_81.1, eτ246_81.2, fun a k => (jτ246 a k).1, fun a k => (jτ246 a k).2, pτ246]) <;> (first | omega | with_reducible assumption | (unfold rng; omega) | (unfold rng; (repeat' split) <;> omega) | grind)
                                  · rename_i hc264
                                    skip
                                    unfold w_X16_takeJoin_267
                                    try simp only [forall_eq, rII, rIJ, rIP, rJJ, rJI, rJP, rPP, rPI, rPJ, g1, g2, g3, g4, g5, g6, g7, g8, Nat.reduceEqDiff, Nat.reduceAdd, false_and, and_false, true_and, and_true, reduceIte, nZ0, nZ1, eτ246_38.1, eτ246_38.2, eτ246_81.1, eτ246_81.2, fun a k => (jτ246 a k).1, fun a k => (jτ246 a k).2, pτ246]
                                    refine ⟨by (first | omega | with_reducible assumption | (unfold rng; omega) | (unfold rng; (repeat' split) <;> omega) | grind), ?_⟩
                                    unfold w_X16_takeJoin_290
                                    try simp only [forall_eq, rII, rIJ, rIP, rJJ, rJI, rJP, rPP, rPI, rPJ, g1, g2, g3, g4, g5, g6, g7, g8, Nat.reduceEqDiff, Nat.reduceAdd, false_and, and_false, true_and, and_true, reduceIte, nZ0, nZ1, eτ246_38.1, eτ246_38.2, eτ246_81.1, eτ246_81.2, fun a k => (jτ246 a k).1, fun a k => (jτ246 a k).2, pτ246]
                                    refine ⟨by (first | omega | with_reducible assumption | (unfold rng; omega) | (unfold rng; (repeat' split) <;> omega) | grind), ?_⟩
                                    refine ⟨by (first | omega | with_reducible assumption | (unfold rng; omega) | (unfold rng; (repeat' split) <;> omega) | grind), ?_⟩
                                    refine ih246 _ _ ?_ ?_ ?_ ?_
                                    · refine Rg.aJ g ?_ (by simp only [rlT]; first | with_reducible assumption | omega | exact Int64.toInt_le _ | (rw [Int64.toInt_ofInt_of_le (by omega) (by omega)]; omega) | grind); exact rτ246
                                    · refine Fr.aJ g ?_ (by decide); exact fτ246
                                    · refine ⟨?_, ?_, ?_, ?_, ?_, ?_⟩ <;> (first | with_reducible assumption | omega | exact RecI.fr (jx := jx) (K := [82]) (S := []) (by assumption) (by repeat (first | exact Fr.rf | assumption | refine Fr.aJ g ?_ (by decide) | refine Fr.aI g ?_ (by decide) | refine Fr.sI g ?_ (by decide) | refine Fr.sJ g ?_ (by decide))) (by decide) (by decide) | exact MtI.fr (rm := rm) (K := [82]) (S := []) (by assumption) (by repeat (first | exact Fr.rf | assumption | refine Fr.aJ g ?_ (by decide) | refine Fr.aI g ?_ (by decide) | refine Fr.sI g ?_ (by decide) | refine Fr.sJ g ?_ (by decide))) (by decide) | exact ThE.fr (jx := jx) (K := [82]) (S := []) (by assumption) (by repeat (first | exact Fr.rf | assumption | refine Fr.aJ g ?_ (by decide) | refine Fr.aI g ?_ (by decide) | refine Fr.sI g ?_ (by decide) | refine Fr.sJ g ?_ (by decide))) (by decide) (by decide) | exact HeE.fr (jx := jx) (K := [82]) (S := []) (by assumption) (by repeat (first | exact Fr.rf | assumption | refine Fr.aJ g ?_ (by decide) | refine Fr.aI g ?_ (by decide) | refine Fr.sI g ?_ (by decide) | refine Fr.sJ g ?_ (by decide))) (by decide) (by decide) | ((try simp only [rII, rIJ, rIP, rJJ, rJI, rJP, rPP, rPI, rPJ, g1, g2, g3, g4, g5, g6, g7, g8, Nat.reduceEqDiff, Nat.reduceAdd, false_and, and_false, true_and, and_true, reduceIte, nZ0, nZ1, eτ246_38.1, eτ246_38.2, eτ246_81.1, eτ246_81.2, fun a k => (jτ246 a k).1, fun a k => (jτ246 a k).2, pτ246]) <;> first | omega | assumption | grind))
                                    · (try simp only [rII, rIJ, rIP, rJJ, rJI, rJP, rPP, rPI, rPJ, g1, g2, g3, g4, g5, g6, g7, g8, Nat.reduceEqDiff, Nat.reduceAdd, false_and, and_false, true_and, and_true, reduceIte, nZ0, nZ1, eτ246_38.1, eτ246_38.2, eτ246_81.1, eτ246_81.2, fun a k => (jτ246 a k).1, fun a k => (jτ246 a k).2, pτ246]) <;> (first | omega | with_reducible assumption | (unfold rng; omega) | (unfold rng; (repeat' split) <;> omega) | grind)
                            refine ⟨_, L246 _ _ _ ?_ ?_ ?_ (Nat.lt_succ_self _)⟩
                            · exact rτ196
                            · exact fτ196
                            · refine ⟨?_, ?_, ?_, ?_, ?_, ?_⟩ <;> (first | with_reducible assumption | omega | exact RecI.fr (jx := jx) (K := [82]) (S := []) (by assumption) (by repeat (first | exact Fr.rf | assumption | refine Fr.aJ g ?_ (by decide) | refine Fr.aI g ?_ (by decide) | refine Fr.sI g ?_ (by decide) | refine Fr.sJ g ?_ (by decide))) (by decide) (by decide) | exact MtI.fr (rm := rm) (K := [82]) (S := []) (by assumption) (by repeat (first | exact Fr.rf | assumption | refine Fr.aJ g ?_ (by decide) | refine Fr.aI g ?_ (by decide) | refine Fr.sI g ?_ (by decide) | refine Fr.sJ g ?_ (by decide))) (by decide) | exact ThE.fr (jx := jx) (K := [82]) (S := []) (by assumption) (by repeat (first | exact Fr.rf | assumption | refine Fr.aJ g ?_ (by decide) | refine Fr.aI g ?_ (by decide) | refine Fr.sI g ?_ (by decide) | refine Fr.sJ g ?_ (by decide))) (by decide) (by decide) | exact HeE.fr (jx := jx) (K := [82]) (S := []) (by assumption) (by repeat (first | exact Fr.rf | assumption | refine Fr.aJ g ?_ (by decide) | refine Fr.aI g ?_ (by decide) | refine Fr.sI g ?_ (by decide) | refine Fr.sJ g ?_ (by decide))) (by decide) (by decide) | ((try simp only [rII, rIJ, rIP, rJJ, rJI, rJP, rPP, rPI, rPJ, g1, g2, g3, g4, g5, g6, g7, g8, Nat.reduceEqDiff, Nat.reduceAdd, false_and, and_false, true_and, and_true, reduceIte, nZ0, nZ1, eτ196_38.1, eτ196_38.2, eτ196_81.1, eτ196_81.2, fun a k => (jτ196 a k).1, fun a k => (jτ196 a k).2, pτ196]) <;> first | omega | assumption | grind))
                          · rename_i hc200
                            skip
                            unfold w_X16_takeJoin_203
                            try simp only [forall_eq, rII, rIJ, rIP, rJJ, rJI, rJP, rPP, rPI, rPJ, g1, g2, g3, g4, g5, g6, g7, g8, Nat.reduceEqDiff, Nat.reduceAdd, false_and, and_false, true_and, and_true, reduceIte, nZ0, nZ1, eτ196_38.1, eτ196_38.2, eτ196_81.1, eτ196_81.2, fun a k => (jτ196 a k).1, fun a k => (jτ196 a k).2, pτ196]
                            rw [if_pos hc43]
                            unfold w_X16_takeJoin_223
                            try simp only [forall_eq, rII, rIJ, rIP, rJJ, rJI, rJP, rPP, rPI, rPJ, g1, g2, g3, g4, g5, g6, g7, g8, Nat.reduceEqDiff, Nat.reduceAdd, false_and, and_false, true_and, and_true, reduceIte, nZ0, nZ1, eτ196_38.1, eτ196_38.2, eτ196_81.1, eτ196_81.2, fun a k => (jτ196 a k).1, fun a k => (jτ196 a k).2, pτ196]
                            refine ⟨by (first | omega | with_reducible assumption | (unfold rng; omega) | (unfold rng; (repeat' split) <;> omega) | grind), ?_⟩
                            refine ⟨by (first | omega | with_reducible assumption | (unfold rng; omega) | (unfold rng; (repeat' split) <;> omega) | grind), ?_⟩
                            refine ⟨by (first | omega | with_reducible assumption | (unfold rng; omega) | (unfold rng; (repeat' split) <;> omega) | grind), ?_⟩
                            unfold w_X16_takeJoin_236
                            try simp only [forall_eq, rII, rIJ, rIP, rJJ, rJI, rJP, rPP, rPI, rPJ, g1, g2, g3, g4, g5, g6, g7, g8, Nat.reduceEqDiff, Nat.reduceAdd, false_and, and_false, true_and, and_true, reduceIte, nZ0, nZ1, eτ196_38.1, eτ196_38.2, eτ196_81.1, eτ196_81.2, fun a k => (jτ196 a k).1, fun a k => (jτ196 a k).2, pτ196]
                            refine ⟨by (first | omega | with_reducible assumption | (unfold rng; omega) | (unfold rng; (repeat' split) <;> omega) | grind), ?_⟩
                            refine ⟨by (first | omega | with_reducible assumption | (unfold rng; omega) | (unfold rng; (repeat' split) <;> omega) | grind), ?_⟩
                            refine ih196 _ _ ?_ ?_ ?_ ?_
                            · refine Rg.aJ g ?_ (by simp only [rlT]; first | with_reducible assumption | omega | exact Int64.toInt_le _ | (rw [Int64.toInt_ofInt_of_le (by omega) (by omega)]; omega) | grind); exact rτ196
                            · refine Fr.aJ g ?_ (by decide); exact fτ196
                            · refine ⟨?_, ?_, ?_, ?_, ?_, ?_⟩ <;> (first | with_reducible assumption | omega | exact RecI.fr (jx := jx) (K := [82]) (S := []) (by assumption) (by repeat (first | exact Fr.rf | assumption | refine Fr.aJ g ?_ (by decide) | refine Fr.aI g ?_ (by decide) | refine Fr.sI g ?_ (by decide) | refine Fr.sJ g ?_ (by decide))) (by decide) (by decide) | exact MtI.fr (rm := rm) (K := [82]) (S := []) (by assumption) (by repeat (first | exact Fr.rf | assumption | refine Fr.aJ g ?_ (by decide) | refine Fr.aI g ?_ (by decide) | refine Fr.sI g ?_ (by decide) | refine Fr.sJ g ?_ (by decide))) (by decide) | exact ThE.fr (jx := jx) (K := [82]) (S := []) (by assumption) (by repeat (first | exact Fr.rf | assumption | refine Fr.aJ g ?_ (by decide) | refine Fr.aI g ?_ (by decide) | refine Fr.sI g ?_ (by decide) | refine Fr.sJ g ?_ (by decide))) (by decide) (by decide) | exact HeE.fr (jx := jx) (K := [82]) (S := []) (by assumption) (by repeat (first | exact Fr.rf | assumption | refine Fr.aJ g ?_ (by decide) | refine Fr.aI g ?_ (by decide) | refine Fr.sI g ?_ (by decide) | refine Fr.sJ g ?_ (by decide))) (by decide) (by decide) | ((try simp only [rII, rIJ, rIP, rJJ, rJI, rJP, rPP, rPI, rPJ, g1, g2, g3, g4, g5, g6, g7, g8, Nat.reduceEqDiff, Nat.reduceAdd, false_and, and_false, true_and, and_true, reduceIte, nZ0, nZ1, eτ196_38.1, eτ196_38.2, eτ196_81.1, eτ196_81.2, fun a k => (jτ196 a k).1, fun a k => (jτ196 a k).2, pτ196]) <;> first | omega | assumption | grind))
                            · (try simp only [rII, rIJ, rIP, rJJ, rJI, rJP, rPP, rPI, rPJ, g1, g2, g3, g4, g5, g6, g7, g8, Nat.reduceEqDiff, Nat.reduceAdd, false_and, and_false, true_and, and_true, reduceIte, nZ0, nZ1, eτ196_38.1, eτ196_38.2, eτ196_81.1, eτ196_81.2, fun a k => (jτ196 a k).1, fun a k => (jτ196 a k).2, pτ196]) <;> (first | omega | with_reducible assumption | (unfold rng; omega) | (unfold rng; (repeat' split) <;> omega) | grind)
                      refine ⟨_, L196 _ _ _ ?_ ?_ ?_ (Nat.lt_succ_self _)⟩
                      · exact rτ172
                      · exact fτ172
                      · refine ⟨?_, ?_, ?_, ?_, ?_, ?_⟩ <;> (first | with_reducible assumption | omega | exact RecI.fr (jx := jx) (K := [82]) (S := []) (by assumption) (by repeat (first | exact Fr.rf | assumption | refine Fr.aJ g ?_ (by decide) | refine Fr.aI g ?_ (by decide) | refine Fr.sI g ?_ (by decide) | refine Fr.sJ g ?_ (by decide))) (by decide) (by decide) | exact MtI.fr (rm := rm) (K := [82]) (S := []) (by assumption) (by repeat (first | exact Fr.rf | assumption | refine Fr.aJ g ?_ (by decide) | refine Fr.aI g ?_ (by decide) | refine Fr.sI g ?_ (by decide) | refine Fr.sJ g ?_ (by decide))) (by decide) | exact ThE.fr (jx := jx) (K := [82]) (S := []) (by assumption) (by repeat (first | exact Fr.rf | assumption | refine Fr.aJ g ?_ (by decide) | refine Fr.aI g ?_ (by decide) | refine Fr.sI g ?_ (by decide) | refine Fr.sJ g ?_ (by decide))) (by decide) (by decide) | exact HeE.fr (jx := jx) (K := [82]) (S := []) (by assumption) (by repeat (first | exact Fr.rf | assumption | refine Fr.aJ g ?_ (by decide) | refine Fr.aI g ?_ (by decide) | refine Fr.sI g ?_ (by decide) | refine Fr.sJ g ?_ (by decide))) (by decide) (by decide) | ((try simp only [rII, rIJ, rIP, rJJ, rJI, rJP, rPP, rPI, rPJ, g1, g2, g3, g4, g5, g6, g7, g8, Nat.reduceEqDiff, Nat.reduceAdd, false_and, and_false, true_and, and_true, reduceIte, nZ0, nZ1, eτ172_38.1, eτ172_38.2, eτ172_81.1, eτ172_81.2, fun a k => (jτ172 a k).1, fun a k => (jτ172 a k).2, pτ172]) <;> first | omega | assumption | grind))
                    · rename_i hc176
                      skip
                      unfold w_X16_takeJoin_179
                      try simp only [forall_eq, rII, rIJ, rIP, rJJ, rJI, rJP, rPP, rPI, rPJ, g1, g2, g3, g4, g5, g6, g7, g8, Nat.reduceEqDiff, Nat.reduceAdd, false_and, and_false, true_and, and_true, reduceIte, nZ0, nZ1, eτ172_38.1, eτ172_38.2, eτ172_81.1, eτ172_81.2, fun a k => (jτ172 a k).1, fun a k => (jτ172 a k).2, pτ172]
                      refine ⟨by (first | omega | with_reducible assumption | (unfold rng; omega) | (unfold rng; (repeat' split) <;> omega) | grind), ?_⟩
                      refine ⟨by (first | omega | with_reducible assumption | (unfold rng; omega) | (unfold rng; (repeat' split) <;> omega) | grind), ?_⟩
                      refine ih172 _ _ ?_ ?_ ?_ ?_
                      · refine Rg.aJ g ?_ (by simp only [rlT]; first | with_reducible assumption | omega | exact Int64.toInt_le _ | (rw [Int64.toInt_ofInt_of_le (by omega) (by omega)]; omega) | grind); exact rτ172
                      · refine Fr.aJ g ?_ (by decide); exact fτ172
                      · refine ⟨?_, ?_, ?_, ?_, ?_, ?_⟩ <;> (first | with_reducible assumption | omega | exact RecI.fr (jx := jx) (K := [82]) (S := []) (by assumption) (by repeat (first | exact Fr.rf | assumption | refine Fr.aJ g ?_ (by decide) | refine Fr.aI g ?_ (by decide) | refine Fr.sI g ?_ (by decide) | refine Fr.sJ g ?_ (by decide))) (by decide) (by decide) | exact MtI.fr (rm := rm) (K := [82]) (S := []) (by assumption) (by repeat (first | exact Fr.rf | assumption | refine Fr.aJ g ?_ (by decide) | refine Fr.aI g ?_ (by decide) | refine Fr.sI g ?_ (by decide) | refine Fr.sJ g ?_ (by decide))) (by decide) | exact ThE.fr (jx := jx) (K := [82]) (S := []) (by assumption) (by repeat (first | exact Fr.rf | assumption | refine Fr.aJ g ?_ (by decide) | refine Fr.aI g ?_ (by decide) | refine Fr.sI g ?_ (by decide) | refine Fr.sJ g ?_ (by decide))) (by decide) (by decide) | exact HeE.fr (jx := jx) (K := [82]) (S := []) (by assumption) (by repeat (first | exact Fr.rf | assumption | refine Fr.aJ g ?_ (by decide) | refine Fr.aI g ?_ (by decide) | refine Fr.sI g ?_ (by decide) | refine Fr.sJ g ?_ (by decide))) (by decide) (by decide) | ((try simp only [rII, rIJ, rIP, rJJ, rJI, rJP, rPP, rPI, rPJ, g1, g2, g3, g4, g5, g6, g7, g8, Nat.reduceEqDiff, Nat.reduceAdd, false_and, and_false, true_and, and_true, reduceIte, nZ0, nZ1, eτ172_38.1, eτ172_38.2, eτ172_81.1, eτ172_81.2, fun a k => (jτ172 a k).1, fun a k => (jτ172 a k).2, pτ172]) <;> first | omega | assumption | grind))
                      · (try simp only [rII, rIJ, rIP, rJJ, rJI, rJP, rPP, rPI, rPJ, g1, g2, g3, g4, g5, g6, g7, g8, Nat.reduceEqDiff, Nat.reduceAdd, false_and, and_false, true_and, and_true, reduceIte, nZ0, nZ1, eτ172_38.1, eτ172_38.2, eτ172_81.1, eτ172_81.2, fun a k => (jτ172 a k).1, fun a k => (jτ172 a k).2, pτ172]) <;> (first | omega | with_reducible assumption | (unfold rng; omega) | (unfold rng; (repeat' split) <;> omega) | grind)
                refine ⟨_, L172 _ _ _ ?_ ?_ ?_ (Nat.lt_succ_self _)⟩
                · exact rτ78
                · exact fτ78
                · refine ⟨?_, ?_, ?_, ?_, ?_, ?_⟩ <;> (first | with_reducible assumption | omega | exact RecI.fr (jx := jx) (K := [82]) (S := []) (by assumption) (by repeat (first | exact Fr.rf | assumption | refine Fr.aJ g ?_ (by decide) | refine Fr.aI g ?_ (by decide) | refine Fr.sI g ?_ (by decide) | refine Fr.sJ g ?_ (by decide))) (by decide) (by decide) | exact MtI.fr (rm := rm) (K := [82]) (S := []) (by assumption) (by repeat (first | exact Fr.rf | assumption | refine Fr.aJ g ?_ (by decide) | refine Fr.aI g ?_ (by decide) | refine Fr.sI g ?_ (by decide) | refine Fr.sJ g ?_ (by decide))) (by decide) | exact ThE.fr (jx := jx) (K := [82]) (S := []) (by assumption) (by repeat (first | exact Fr.rf | assumption | refine Fr.aJ g ?_ (by decide) | refine Fr.aI g ?_ (by decide) | refine Fr.sI g ?_ (by decide) | refine Fr.sJ g ?_ (by decide))) (by decide) (by decide) | exact HeE.fr (jx := jx) (K := [82]) (S := []) (by assumption) (by repeat (first | exact Fr.rf | assumption | refine Fr.aJ g ?_ (by decide) | refine Fr.aI g ?_ (by decide) | refine Fr.sI g ?_ (by decide) | refine Fr.sJ g ?_ (by decide))) (by decide) (by decide) | ((try simp only [rII, rIJ, rIP, rJJ, rJI, rJP, rPP, rPI, rPJ, g1, g2, g3, g4, g5, g6, g7, g8, Nat.reduceEqDiff, Nat.reduceAdd, false_and, and_false, true_and, and_true, reduceIte, nZ0, nZ1, eτ78_38.1, eτ78_38.2, eτ78_81.1, eτ78_81.2, fun a k => (jτ78 a k).1, fun a k => (jτ78 a k).2, pτ78]) <;> first | omega | assumption | grind))
              · rename_i hc163
                skip
                unfold w_X16_takeJoin_166
                try simp only [forall_eq, rII, rIJ, rIP, rJJ, rJI, rJP, rPP, rPI, rPJ, g1, g2, g3, g4, g5, g6, g7, g8, Nat.reduceEqDiff, Nat.reduceAdd, false_and, and_false, true_and, and_true, reduceIte, nZ0, nZ1, eτ78_38.1, eτ78_38.2, eτ78_81.1, eτ78_81.2, fun a k => (jτ78 a k).1, fun a k => (jτ78 a k).2, pτ78]
                unfold w_X16_takeJoin_352
                try simp only [forall_eq, rII, rIJ, rIP, rJJ, rJI, rJP, rPP, rPI, rPJ, g1, g2, g3, g4, g5, g6, g7, g8, Nat.reduceEqDiff, Nat.reduceAdd, false_and, and_false, true_and, and_true, reduceIte, nZ0, nZ1, eτ78_38.1, eτ78_38.2, eτ78_81.1, eτ78_81.2, fun a k => (jτ78 a k).1, fun a k => (jτ78 a k).2, pτ78]
                have n9 := RecI.nd (by assumption) hov h1
                have n91 := n9.1; have n92 := n9.2.1; have n93 := n9.2.2.1; have n94 := n9.2.2.2
                refine ⟨by (first | omega | with_reducible assumption | (unfold rng; omega) | (unfold rng; (repeat' split) <;> omega) | grind), ?_⟩
                have q15 := rτ78.1 75 (v11.toNat); simp only [rgT] at q15
                refine ih78 _ _ ?_ ?_ ?_ ?_
                · exact rτ78
                · exact fτ78
                · first | exact ⟨hr0, hm0, hth, hr0.hd h1⟩ | (refine ⟨by with_reducible assumption, by with_reducible assumption, by with_reducible assumption, ?_⟩; exact n9.2.2.2.elim (fun q => Or.inl q.2) (fun q => Or.inr q.2.1))
                · (try simp only [rII, rIJ, rIP, rJJ, rJI, rJP, rPP, rPI, rPJ, g1, g2, g3, g4, g5, g6, g7, g8, Nat.reduceEqDiff, Nat.reduceAdd, false_and, and_false, true_and, and_true, reduceIte, nZ0, nZ1, eτ78_38.1, eτ78_38.2, eτ78_81.1, eτ78_81.2, fun a k => (jτ78 a k).1, fun a k => (jτ78 a k).2, pτ78]) <;> (first | omega | with_reducible assumption | (unfold rng; omega) | (unfold rng; (repeat' split) <;> omega) | grind)
            · rename_i hc105
              skip
              unfold w_X16_takeJoin_108
              try simp only [forall_eq, rII, rIJ, rIP, rJJ, rJI, rJP, rPP, rPI, rPJ, g1, g2, g3, g4, g5, g6, g7, g8, Nat.reduceEqDiff, Nat.reduceAdd, false_and, and_false, true_and, and_true, reduceIte, nZ0, nZ1, eτ78_38.1, eτ78_38.2, eτ78_81.1, eτ78_81.2, fun a k => (jτ78 a k).1, fun a k => (jτ78 a k).2, pτ78]
              unfold w_X16_takeJoin_352
              try simp only [forall_eq, rII, rIJ, rIP, rJJ, rJI, rJP, rPP, rPI, rPJ, g1, g2, g3, g4, g5, g6, g7, g8, Nat.reduceEqDiff, Nat.reduceAdd, false_and, and_false, true_and, and_true, reduceIte, nZ0, nZ1, eτ78_38.1, eτ78_38.2, eτ78_81.1, eτ78_81.2, fun a k => (jτ78 a k).1, fun a k => (jτ78 a k).2, pτ78]
              have n9 := RecI.nd (by assumption) hov h1
              have n91 := n9.1; have n92 := n9.2.1; have n93 := n9.2.2.1; have n94 := n9.2.2.2
              refine ⟨by (first | omega | with_reducible assumption | (unfold rng; omega) | (unfold rng; (repeat' split) <;> omega) | grind), ?_⟩
              have q16 := rτ78.1 75 (v11.toNat); simp only [rgT] at q16
              refine ih78 _ _ ?_ ?_ ?_ ?_
              · exact rτ78
              · exact fτ78
              · first | exact ⟨hr0, hm0, hth, hr0.hd h1⟩ | (refine ⟨by with_reducible assumption, by with_reducible assumption, by with_reducible assumption, ?_⟩; exact n9.2.2.2.elim (fun q => Or.inl q.2) (fun q => Or.inr q.2.1))
              · (try simp only [rII, rIJ, rIP, rJJ, rJI, rJP, rPP, rPI, rPJ, g1, g2, g3, g4, g5, g6, g7, g8, Nat.reduceEqDiff, Nat.reduceAdd, false_and, and_false, true_and, and_true, reduceIte, nZ0, nZ1, eτ78_38.1, eτ78_38.2, eτ78_81.1, eτ78_81.2, fun a k => (jτ78 a k).1, fun a k => (jτ78 a k).2, pτ78]) <;> (first | omega | with_reducible assumption | (unfold rng; omega) | (unfold rng; (repeat' split) <;> omega) | grind)
    refine ⟨_, L78 _ _ _ ?_ ?_ ?_ (Nat.lt_succ_self _)⟩
    · exact rσ
    · exact fσ
    · first | exact ⟨hr0, hm0, hth, hr0.hd h1⟩ | (refine ⟨by with_reducible assumption, by with_reducible assumption, by with_reducible assumption, ?_⟩; exact n9.2.2.2.elim (fun q => Or.inl q.2) (fun q => Or.inr q.2.1))
  · rename_i hc43
    skip
    unfold w_X16_takeJoin_46
    try simp only [forall_eq, rII, rIJ, rIP, rJJ, rJI, rJP, rPP, rPI, rPJ, g1, g2, g3, g4, g5, g6, g7, g8, Nat.reduceEqDiff, Nat.reduceAdd, false_and, and_false, true_and, and_true, reduceIte, nZ0, nZ1]
    refine ⟨ja, by exact hj, hja, ?_⟩
    refine ⟨by (first | omega | with_reducible assumption | (unfold rng; omega) | (unfold rng; (repeat' split) <;> omega) | grind), ?_⟩
    unfold w_X16_takeJoin_67
    try simp only [forall_eq, rII, rIJ, rIP, rJJ, rJI, rJP, rPP, rPI, rPJ, g1, g2, g3, g4, g5, g6, g7, g8, Nat.reduceEqDiff, Nat.reduceAdd, false_and, and_false, true_and, and_true, reduceIte, nZ0, nZ1]
    have q17 := rσ.2.2.1 ja 10 (v2.toNat); simp only [rgJ] at q17
    refine ⟨by (first | omega | with_reducible assumption | (unfold rng; omega) | (unfold rng; (repeat' split) <;> omega) | grind), ?_⟩
    refine ⟨by (first | omega | with_reducible assumption | (unfold rng; omega) | (unfold rng; (repeat' split) <;> omega) | grind), ?_⟩
    have q18 := rσ.2.2.1 ja 6 ((gI σ (jx ja 4) v2.toNat).toNat); simp only [rgJ] at q18
    have q19 := rσ.2.2.1 ja 6 ((gI σ (jx ja 5) v2.toNat).toNat); simp only [rgJ] at q19
    have q20 := rσ.1 76 (v1.toNat); simp only [rgT] at q20
    have L78 : ∀ (fu78 : Nat) (τ78 : Sg) (v11 : Int), Rg ra jx rm τ78 → Fr ra jx rm [26, 46, 47, 48, 49, 60, 61, 62, 63, 64, 65, 68, 69, 70, 71, 72, 73, 74, 75, 76, 77, 78, 82] [27, 66, 67, 79, 80] σ τ78 → (RecI ra rm τ78 own0 ps0 ∧ MtI ra jx ja τ78 own0 ∧ ThE ra rm τ78 ∧ (v11 = -1 ∨ own0 v11 = v1)) → ((if v11 < 0 then 0 else gI τ78 (ra 78) v1.toNat - ps0 v11).toNat) < fu78 → wl_X16_takeJoin_78 ra jx rm Q X fu78 τ78 v1 v2 v3 v4 v6 (gI σ (jx ja 6) (gI σ (jx ja 4) v2.toNat).toNat) (gI σ (jx ja 6) (gI σ (jx ja 5) v2.toNat).toNat) (gJ σ (ra 81) (gI σ (jx ja 10) v2.toNat).toNat) v11 := by
      intro fu78
      induction fu78 with
      | zero => intro τ78 _ _ _ _ h9; omega
      | succ fu78 ih78 =>
        intro τ78 v11 rτ78 fτ78 hi78 hm78
        unfold wl_X16_takeJoin_78
        have eτ78_38 := fτ78.1 38 (by decide)
        have eτ78_81 := fτ78.1 81 (by decide)
        have jτ78 := fτ78.2.2.1
        have pτ78 := fτ78.2.2.2
        unfold w_X16_takeJoin_78
        try simp only [forall_eq, rII, rIJ, rIP, rJJ, rJI, rJP, rPP, rPI, rPJ, g1, g2, g3, g4, g5, g6, g7, g8, Nat.reduceEqDiff, Nat.reduceAdd, false_and, and_false, true_and, and_true, reduceIte, nZ0, nZ1, eτ78_38.1, eτ78_38.2, eτ78_81.1, eτ78_81.2, fun a k => (jτ78 a k).1, fun a k => (jτ78 a k).2, pτ78]
        obtain ⟨hrA, hmA, htA, hnA⟩ := hi78
        split
        · rename_i hc81
          skip
          unfold w_X16_takeJoin_364
          try simp only [forall_eq, rII, rIJ, rIP, rJJ, rJI, rJP, rPP, rPI, rPJ, g1, g2, g3, g4, g5, g6, g7, g8, Nat.reduceEqDiff, Nat.reduceAdd, false_and, and_false, true_and, and_true, reduceIte, nZ0, nZ1, eτ78_38.1, eτ78_38.2, eτ78_81.1, eτ78_81.2, fun a k => (jτ78 a k).1, fun a k => (jτ78 a k).2, pτ78]
          refine s_X16_record (b9 := (ra 81)) (n9 := 8) g rτ78 rfl (Or.inl ⟨81, rfl, by decide⟩) hrA (by (try simp only [rII, rIJ, rIP, rJJ, rJI, rJP, rPP, rPI, rPJ, g1, g2, g3, g4, g5, g6, g7, g8, Nat.reduceEqDiff, Nat.reduceAdd, false_and, and_false, true_and, and_true, reduceIte, nZ0, nZ1, eτ78_38.1, eτ78_38.2, eτ78_81.1, eτ78_81.2, fun a k => (jτ78 a k).1, fun a k => (jτ78 a k).2, pτ78]) <;> (first | omega | with_reducible assumption | (unfold rng; omega) | (unfold rng; (repeat' split) <;> omega) | grind)) (by (try simp only [rII, rIJ, rIP, rJJ, rJI, rJP, rPP, rPI, rPJ, g1, g2, g3, g4, g5, g6, g7, g8, Nat.reduceEqDiff, Nat.reduceAdd, false_and, and_false, true_and, and_true, reduceIte, nZ0, nZ1, eτ78_38.1, eτ78_38.2, eτ78_81.1, eτ78_81.2, fun a k => (jτ78 a k).1, fun a k => (jτ78 a k).2, pτ78]) <;> (first | omega | with_reducible assumption | (unfold rng; omega) | (unfold rng; (repeat' split) <;> omega) | grind)) h4 (by (try simp only [rII, rIJ, rIP, rJJ, rJI, rJP, rPP, rPI, rPJ, g1, g2, g3, g4, g5, g6, g7, g8, Nat.reduceEqDiff, Nat.reduceAdd, false_and, and_false, true_and, and_true, reduceIte, nZ0, nZ1, eτ78_38.1, eτ78_38.2, eτ78_81.1, eτ78_81.2, fun a k => (jτ78 a k).1, fun a k => (jτ78 a k).2, pτ78]) <;> (first | omega | with_reducible assumption | (unfold rng; omega) | (unfold rng; (repeat' split) <;> omega) | grind)) (by (try simp only [rII, rIJ, rIP, rJJ, rJI, rJP, rPP, rPI, rPJ, g1, g2, g3, g4, g5, g6, g7, g8, Nat.reduceEqDiff, Nat.reduceAdd, false_and, and_false, true_and, and_true, reduceIte, nZ0, nZ1, eτ78_38.1, eτ78_38.2, eτ78_81.1, eτ78_81.2, fun a k => (jτ78 a k).1, fun a k => (jτ78 a k).2, pτ78]) <;> (first | omega | with_reducible assumption | (unfold rng; omega) | (unfold rng; (repeat' split) <;> omega) | grind)) (by (try simp only [rII, rIJ, rIP, rJJ, rJI, rJP, rPP, rPI, rPJ, g1, g2, g3, g4, g5, g6, g7, g8, Nat.reduceEqDiff, Nat.reduceAdd, false_and, and_false, true_and, and_true, reduceIte, nZ0, nZ1, eτ78_38.1, eτ78_38.2, eτ78_81.1, eτ78_81.2, fun a k => (jτ78 a k).1, fun a k => (jτ78 a k).2, pτ78]) <;> (first | omega | with_reducible assumption | (unfold rng; omega) | (unfold rng; (repeat' split) <;> omega) | grind)) (fun σ60 r61 rσ60 fc p21 => ?_) (fun σx E rx fx px => hX _ _ rx (Fr.tr fτ78 (Fr.mor (fx) (by decide) (by decide))) (by obtain ⟨e1, e2⟩ := px; subst e2; exact ⟨e1, htA, _, _, hrA, hmA⟩))
          have fσ60 : Fr ra jx rm [26, 46, 47, 48, 49, 60, 61, 62, 63, 64, 65, 68, 69, 70, 71, 72, 73, 74, 75, 76, 77, 78, 82] [27, 66, 67, 79, 80] σ σ60 := Fr.tr fτ78 (Fr.mor (fc) (by decide) (by decide))
          have me8 := MtI.more hmA fc (by decide) h1 p21.2.2.2.1 p21.2.2.2.2.1 p21.2.2.2.2.2 (fun a ha => (hrA.2.2.1 a (by omega)).1) (fun q => absurd (show gI σ (jx ja 2) v2.toNat = 8 by simpa only [rII, rIJ, rIP, rJJ, rJI, rJP, rPP, rPI, rPJ, g1, g2, g3, g4, g5, g6, g7, g8, Nat.reduceEqDiff, Nat.reduceAdd, false_and, and_false, true_and, and_true, reduceIte, nZ0, nZ1, eτ78_38.1, eτ78_38.2, eτ78_81.1, eτ78_81.2, fun a k => (jτ78 a k).1, fun a k => (jτ78 a k).2, pτ78, hto] using q) hk)
          have re8 := p21.1
          have te8 := ThE.fr htA fc (by decide) (by decide)
          have eσ60_38 := fσ60.1 38 (by decide)
          have eσ60_81 := fσ60.1 81 (by decide)
          have jσ60 := fσ60.2.2.1
          have pσ60 := fσ60.2.2.2
          try simp only [forall_eq, rII, rIJ, rIP, rJJ, rJI, rJP, rPP, rPI, rPJ, g1, g2, g3, g4, g5, g6, g7, g8, Nat.reduceEqDiff, Nat.reduceAdd, false_and, and_false, true_and, and_true, reduceIte, nZ0, nZ1, eσ60_38.1, eσ60_38.2, eσ60_81.1, eσ60_81.2, fun a k => (jσ60 a k).1, fun a k => (jσ60 a k).2, pσ60]
          refine hQ _ _ ?_ ?_ ?_
          · exact rσ60
          · exact fσ60
          · exact ⟨⟨_, _, re8, me8⟩, te8⟩
        · rename_i hc81
          skip
          unfold w_X16_takeJoin_84
          try simp only [forall_eq, rII, rIJ, rIP, rJJ, rJI, rJP, rPP, rPI, rPJ, g1, g2, g3, g4, g5, g6, g7, g8, Nat.reduceEqDiff, Nat.reduceAdd, false_and, and_false, true_and, and_true, reduceIte, nZ0, nZ1, eτ78_38.1, eτ78_38.2, eτ78_81.1, eτ78_81.2, fun a k => (jτ78 a k).1, fun a k => (jτ78 a k).2, pτ78]
          have hov := hnA.resolve_left (by assumption)
          have n11 := hrA.nd hov h1
          refine ⟨by (first | omega | with_reducible assumption | (unfold rng; omega) | (unfold rng; (repeat' split) <;> omega) | grind), ?_⟩
          have q22 := rτ78.1 68 (v11.toNat); simp only [rgT] at q22
          split
          · rename_i hc92
            skip
            unfold w_X16_takeJoin_352
            try simp only [forall_eq, rII, rIJ, rIP, rJJ, rJI, rJP, rPP, rPI, rPJ, g1, g2, g3, g4, g5, g6, g7, g8, Nat.reduceEqDiff, Nat.reduceAdd, false_and, and_false, true_and, and_true, reduceIte, nZ0, nZ1, eτ78_38.1, eτ78_38.2, eτ78_81.1, eτ78_81.2, fun a k => (jτ78 a k).1, fun a k => (jτ78 a k).2, pτ78]
            have n9 := RecI.nd (by assumption) hov h1
            have n91 := n9.1; have n92 := n9.2.1; have n93 := n9.2.2.1; have n94 := n9.2.2.2
            refine ⟨by (first | omega | with_reducible assumption | (unfold rng; omega) | (unfold rng; (repeat' split) <;> omega) | grind), ?_⟩
            have q23 := rτ78.1 75 (v11.toNat); simp only [rgT] at q23
            refine ih78 _ _ ?_ ?_ ?_ ?_
            · exact rτ78
            · exact fτ78
            · first | exact ⟨hr0, hm0, hth, hr0.hd h1⟩ | (refine ⟨by with_reducible assumption, by with_reducible assumption, by with_reducible assumption, ?_⟩; exact n9.2.2.2.elim (fun q => Or.inl q.2) (fun q => Or.inr q.2.1))
            · (try simp only [rII, rIJ, rIP, rJJ, rJI, rJP, rPP, rPI, rPJ, g1, g2, g3, g4, g5, g6, g7, g8, Nat.reduceEqDiff, Nat.reduceAdd, false_and, and_false, true_and, and_true, reduceIte, nZ0, nZ1, eτ78_38.1, eτ78_38.2, eτ78_81.1, eτ78_81.2, fun a k => (jτ78 a k).1, fun a k => (jτ78 a k).2, pτ78]) <;> (first | omega | with_reducible assumption | (unfold rng; omega) | (unfold rng; (repeat' split) <;> omega) | grind)
          · rename_i hc92
            skip
            unfold w_X16_takeJoin_95
            try simp only [forall_eq, rII, rIJ, rIP, rJJ, rJI, rJP, rPP, rPI, rPJ, g1, g2, g3, g4, g5, g6, g7, g8, Nat.reduceEqDiff, Nat.reduceAdd, false_and, and_false, true_and, and_true, reduceIte, nZ0, nZ1, eτ78_38.1, eτ78_38.2, eτ78_81.1, eτ78_81.2, fun a k => (jτ78 a k).1, fun a k => (jτ78 a k).2, pτ78]
            refine ⟨by (first | omega | with_reducible assumption | (unfold rng; omega) | (unfold rng; (repeat' split) <;> omega) | grind), ?_⟩
            split
            · rename_i hc105
              skip
              unfold w_X16_takeJoin_111
              try simp only [forall_eq, rII, rIJ, rIP, rJJ, rJI, rJP, rPP, rPI, rPJ, g1, g2, g3, g4, g5, g6, g7, g8, Nat.reduceEqDiff, Nat.reduceAdd, false_and, and_false, true_and, and_true, reduceIte, nZ0, nZ1, eτ78_38.1, eτ78_38.2, eτ78_81.1, eτ78_81.2, fun a k => (jτ78 a k).1, fun a k => (jτ78 a k).2, pτ78]
              rw [if_neg hc43]
              unfold w_X16_takeJoin_115
              try simp only [forall_eq, rII, rIJ, rIP, rJJ, rJI, rJP, rPP, rPI, rPJ, g1, g2, g3, g4, g5, g6, g7, g8, Nat.reduceEqDiff, Nat.reduceAdd, false_and, and_false, true_and, and_true, reduceIte, nZ0, nZ1, eτ78_38.1, eτ78_38.2, eτ78_81.1, eτ78_81.2, fun a k => (jτ78 a k).1, fun a k => (jτ78 a k).2, pτ78]
              refine ⟨by (first | omega | with_reducible assumption | (unfold rng; omega) | (unfold rng; (repeat' split) <;> omega) | grind), ?_⟩
              unfold w_X16_takeJoin_138
              try simp only [forall_eq, rII, rIJ, rIP, rJJ, rJI, rJP, rPP, rPI, rPJ, g1, g2, g3, g4, g5, g6, g7, g8, Nat.reduceEqDiff, Nat.reduceAdd, false_and, and_false, true_and, and_true, reduceIte, nZ0, nZ1, eτ78_38.1, eτ78_38.2, eτ78_81.1, eτ78_81.2, fun a k => (jτ78 a k).1, fun a k => (jτ78 a k).2, pτ78]
              refine ⟨ja, by exact hj, hja, ?_⟩
              refine ⟨by (first | omega | with_reducible assumption | (unfold rng; omega) | (unfold rng; (repeat' split) <;> omega) | grind), ?_⟩
              refine ⟨ja, by exact hj, hja, ?_⟩
              refine ⟨by (first | omega | with_reducible assumption | (unfold rng; omega) | (unfold rng; (repeat' split) <;> omega) | grind), ?_⟩
              refine s_X16_within g rτ78 (fun r65 p24 => ?_)
              obtain ⟨p24, p24b⟩ := p24
              try simp only [forall_eq, rII, rIJ, rIP, rJJ, rJI, rJP, rPP, rPI, rPJ, g1, g2, g3, g4, g5, g6, g7, g8, Nat.reduceEqDiff, Nat.reduceAdd, false_and, and_false, true_and, and_true, reduceIte, nZ0, nZ1, eτ78_38.1, eτ78_38.2, eτ78_81.1, eτ78_81.2, fun a k => (jτ78 a k).1, fun a k => (jτ78 a k).2, pτ78]
              split
              · rename_i hc163
                skip
                unfold w_X16_takeJoin_169
                try simp only [forall_eq, rII, rIJ, rIP, rJJ, rJI, rJP, rPP, rPI, rPJ, g1, g2, g3, g4, g5, g6, g7, g8, Nat.reduceEqDiff, Nat.reduceAdd, false_and, and_false, true_and, and_true, reduceIte, nZ0, nZ1, eτ78_38.1, eτ78_38.2, eτ78_81.1, eτ78_81.2, fun a k => (jτ78 a k).1, fun a k => (jτ78 a k).2, pτ78]
                have L172 : ∀ (fu172 : Nat) (τ172 : Sg) (v14 : Int), Rg ra jx rm τ172 → Fr ra jx rm [26, 46, 47, 48, 49, 60, 61, 62, 63, 64, 65, 68, 69, 70, 71, 72, 73, 74, 75, 76, 77, 78, 82] [27, 66, 67, 79, 80] σ τ172 → (RecI ra rm τ172 own0 ps0 ∧ MtI ra jx ja τ172 own0 ∧ ThE ra rm τ172 ∧ gI τ172 (ra 78) v1.toNat = gI τ78 (ra 78) v1.toNat ∧ 0 ≤ v14 ∧ v14 ≤ 8) → ((8 - v14).toNat) < fu172 → wl_X16_takeJoin_172 ra jx rm (wl_X16_takeJoin_78 ra jx rm Q X fu78) Q X fu172 τ172 v1 v2 v3 v4 v6 (gI σ (jx ja 6) (gI σ (jx ja 4) v2.toNat).toNat) (gI σ (jx ja 6) (gI σ (jx ja 5) v2.toNat).toNat) (gJ σ (ra 81) (gI σ (jx ja 10) v2.toNat).toNat) v11 v14 := by
                  intro fu172
                  induction fu172 with
                  | zero => intro τ172 _ _ _ _ h9; omega
                  | succ fu172 ih172 =>
                    intro τ172 v14 rτ172 fτ172 hi172 hm172
                    unfold wl_X16_takeJoin_172
                    have eτ172_38 := fτ172.1 38 (by decide)
                    have eτ172_81 := fτ172.1 81 (by decide)
                    have jτ172 := fτ172.2.2.1
                    have pτ172 := fτ172.2.2.2
                    unfold w_X16_takeJoin_172
                    try simp only [forall_eq, rII, rIJ, rIP, rJJ, rJI, rJP, rPP, rPI, rPJ, g1, g2, g3, g4, g5, g6, g7, g8, Nat.reduceEqDiff, Nat.reduceAdd, false_and, and_false, true_and, and_true, reduceIte, nZ0, nZ1, eτ172_38.1, eτ172_38.2, eτ172_81.1, eτ172_81.2, fun a k => (jτ172 a k).1, fun a k => (jτ172 a k).2, pτ172]
                    obtain ⟨r2, m2, t2, k2, k3, k4⟩ := hi172
                    split
                    · rename_i hc176
                      skip
                      unfold w_X16_takeJoin_193
                      try simp only [forall_eq, rII, rIJ, rIP, rJJ, rJI, rJP, rPP, rPI, rPJ, g1, g2, g3, g4, g5, g6, g7, g8, Nat.reduceEqDiff, Nat.reduceAdd, false_and, and_false, true_and, and_true, reduceIte, nZ0, nZ1, eτ172_38.1, eτ172_38.2, eτ172_81.1, eτ172_81.2, fun a k => (jτ172 a k).1, fun a k => (jτ172 a k).2, pτ172]
                      have L196 : ∀ (fu196 : Nat) (τ196 : Sg) (v14 : Int), Rg ra jx rm τ196 → Fr ra jx rm [26, 46, 47, 48, 49, 60, 61, 62, 63, 64, 65, 68, 69, 70, 71, 72, 73, 74, 75, 76, 77, 78, 82] [27, 66, 67, 79, 80] σ τ196 → (RecI ra rm τ196 own0 ps0 ∧ MtI ra jx ja τ196 own0 ∧ ThE ra rm τ196 ∧ gI τ196 (ra 78) v1.toNat = gI τ78 (ra 78) v1.toNat ∧ 0 ≤ v14 ∧ v14 ≤ (gI σ (jx ja 6) (gI σ (jx ja 4) v2.toNat).toNat)) → (((gI σ (jx ja 6) (gI σ (jx ja 4) v2.toNat).toNat) - v14).toNat) < fu196 → wl_X16_takeJoin_196 ra jx rm (wl_X16_takeJoin_78 ra jx rm Q X fu78) Q X fu196 τ196 v1 v2 v3 v4 v6 (gI σ (jx ja 6) (gI σ (jx ja 4) v2.toNat).toNat) (gI σ (jx ja 6) (gI σ (jx ja 5) v2.toNat).toNat) (gJ σ (ra 81) (gI σ (jx ja 10) v2.toNat).toNat) v11 v14 := by
                        intro fu196
                        induction fu196 with
                        | zero => intro τ196 _ _ _ _ h9; omega
                        | succ fu196 ih196 =>
                          intro τ196 v14 rτ196 fτ196 hi196 hm196
                          unfold wl_X16_takeJoin_196
                          have eτ196_38 := fτ196.1 38 (by decide)
                          have eτ196_81 := fτ196.1 81 (by decide)
                          have jτ196 := fτ196.2.2.1
                          have pτ196 := fτ196.2.2.2
                          unfold w_X16_takeJoin_196
                          try simp only [forall_eq, rII, rIJ, rIP, rJJ, rJI, rJP, rPP, rPI, rPJ, g1, g2, g3, g4, g5, g6, g7, g8, Nat.reduceEqDiff, Nat.reduceAdd, false_and, and_false, true_and, and_true, reduceIte, nZ0, nZ1, eτ196_38.1, eτ196_38.2, eτ196_81.1, eτ196_81.2, fun a k => (jτ196 a k).1, fun a k => (jτ196 a k).2, pτ196]
                          obtain ⟨r3, m3, t3, k5, k6, k7⟩ := hi196
                          split
                          · rename_i hc200
                            skip
                            unfold w_X16_takeJoin_243
                            try simp only [forall_eq, rII, rIJ, rIP, rJJ, rJI, rJP, rPP, rPI, rPJ, g1, g2, g3, g4, g5, g6, g7, g8, Nat.reduceEqDiff, Nat.reduceAdd, false_and, and_false, true_and, and_true, reduceIte, nZ0, nZ1, eτ196_38.1, eτ196_38.2, eτ196_81.1, eτ196_81.2, fun a k => (jτ196 a k).1, fun a k => (jτ196 a k).2, pτ196]
                            have L246 : ∀ (fu246 : Nat) (τ246 : Sg) (v14 : Int), Rg ra jx rm τ246 → Fr ra jx rm [26, 46, 47, 48, 49, 60, 61, 62, 63, 64, 65, 68, 69, 70, 71, 72, 73, 74, 75, 76, 77, 78, 82] [27, 66, 67, 79, 80] σ τ246 → (RecI ra rm τ246 own0 ps0 ∧ MtI ra jx ja τ246 own0 ∧ ThE ra rm τ246 ∧ gI τ246 (ra 78) v1.toNat = gI τ78 (ra 78) v1.toNat ∧ 0 ≤ v14 ∧ v14 ≤ (gI σ (jx ja 6) (gI σ (jx ja 5) v2.toNat).toNat)) → (((gI σ (jx ja 6) (gI σ (jx ja 5) v2.toNat).toNat) - v14).toNat) < fu246 → wl_X16_takeJoin_246 ra jx rm (wl_X16_takeJoin_78 ra jx rm Q X fu78) Q X fu246 τ246 v1 v2 v3 v4 v6 (gI σ (jx ja 6) (gI σ (jx ja 4) v2.toNat).toNat) (gI σ (jx ja 6) (gI σ (jx ja 5) v2.toNat).toNat) (gJ σ (ra 81) (gI σ (jx ja 10) v2.toNat).toNat) v11 v14 := by
                              intro fu246
                              induction fu246 with
                              | zero => intro τ246 _ _ _ _ h9; omega
                              | succ fu246 ih246 =>
                                intro τ246 v14 rτ246 fτ246 hi246 hm246
                                unfold wl_X16_takeJoin_246
                                have eτ246_38 := fτ246.1 38 (by decide)
                                have eτ246_81 := fτ246.1 81 (by decide)
                                have jτ246 := fτ246.2.2.1
                                have pτ246 := fτ246.2.2.2
                                unfold w_X16_takeJoin_246
                                try simp only [forall_eq, rII, rIJ, rIP, rJJ, rJI, rJP, rPP, rPI, rPJ, g1, g2, g3, g4, g5, g6, g7, g8, Nat.reduceEqDiff, Nat.reduceAdd, false_and, and_false, true_and, and_true, reduceIte, nZ0, nZ1, eτ246_38.1, eτ246_38.2, eτ246_81.1, eτ246_81.2, fun a k => (jτ246 a k).1, fun a k => (jτ246 a k).2, pτ246]
                                obtain ⟨r4, m4, t4, k8, k9, k10⟩ := hi246
                                split
                                · rename_i hc250
                                  skip
                                  unfold w_X16_takeJoin_297
                                  try simp only [forall_eq, rII, rIJ, rIP, rJJ, rJI, rJP, rPP, rPI, rPJ, g1, g2, g3, g4, g5, g6, g7, g8, Nat.reduceEqDiff, Nat.reduceAdd, false_and, and_false, true_and, and_true, reduceIte, nZ0, nZ1, eτ246_38.1, eτ246_38.2, eτ246_81.1, eτ246_81.2, fun a k => (jτ246 a k).1, fun a k => (jτ246 a k).2, pτ246]
                                  refine ⟨by (first | omega | with_reducible assumption | (unfold rng; omega) | (unfold rng; (repeat' split) <;> omega) | grind), ?_⟩
                                  rw [if_neg hc43]
                                  unfold w_X16_takeJoin_320
                                  try simp only [forall_eq, rII, rIJ, rIP, rJJ, rJI, rJP, rPP, rPI, rPJ, g1, g2, g3, g4, g5, g6, g7, g8, Nat.reduceEqDiff, Nat.reduceAdd, false_and, and_false, true_and, and_true, reduceIte, nZ0, nZ1, eτ246_38.1, eτ246_38.2, eτ246_81.1, eτ246_81.2, fun a k => (jτ246 a k).1, fun a k => (jτ246 a k).2, pτ246]
                                  refine ⟨by (first | omega | with_reducible assumption | (unfold rng; omega) | (unfold rng; (repeat' split) <;> omega) | grind), ?_⟩
                                  have q25 := rτ246.1 74 (v11.toNat); simp only [rgT] at q25
                                  refine s_X16_joined g rτ246 (by (try simp only [rII, rIJ, rIP, rJJ, rJI, rJP, rPP, rPI, rPJ, g1, g2, g3, g4, g5, g6, g7, g8, Nat.reduceEqDiff, Nat.reduceAdd, false_and, and_false, true_and, and_true, reduceIte, nZ0, nZ1, eτ246_38.1, eτ246_38.2, eτ246_81.1, eτ246_81.2, fun a k => (jτ246 a k).1, fun a k => (jτ246 a k).2, pτ246]) <;> (first | omega | with_reducible assumption | (unfold rng; omega) | (unfold rng; (repeat' split) <;> omega) | grind)) (by (try simp only [rII, rIJ, rIP, rJJ, rJI, rJP, rPP, rPI, rPJ, g1, g2, g3, g4, g5, g6, g7, g8, Nat.reduceEqDiff, Nat.reduceAdd, false_and, and_false, true_and, and_true, reduceIte, nZ0, nZ1, eτ246_38.1, eτ246_38.2, eτ246_81.1, eτ246_81.2, fun a k => (jτ246 a k).1, fun a k => (jτ246 a k).2, pτ246]) <;> (first | omega | with_reducible assumption | (unfold rng; omega) | (unfold rng; (repeat' split) <;> omega) | grind)) (fun σ66 r67 rσ66 fc p26 => ?_) (fun σx E rx fx px => hX _ _ rx (Fr.tr fτ246 (Fr.mor (fx) (by decide) (by decide))) ⟨px, ThE.fr (by assumption) fx (by decide) (by decide), _, _, RecI.fr (by assumption) fx (by decide) (by decide), MtI.fr (by assumption) fx (by decide)⟩)
                                  have fσ66 : Fr ra jx rm [26, 46, 47, 48, 49, 60, 61, 62, 63, 64, 65, 68, 69, 70, 71, 72, 73, 74, 75, 76, 77, 78, 82] [27, 66, 67, 79, 80] σ σ66 := Fr.tr fτ246 (Fr.mor (fc) (by decide) (by decide))
                                  have r1 := RecI.fr r4 fc (by decide) (by decide)
                                  have m1 := MtI.fr m4 fc (by decide)
                                  have t1 := ThE.fr t4 fc (by decide) (by decide)
                                  have e78j := congrFun (fc.1 78 (by decide)).1 v1.toNat
                                  have eσ66_38 := fσ66.1 38 (by decide)
                                  have eσ66_81 := fσ66.1 81 (by decide)
                                  have jσ66 := fσ66.2.2.1
                                  have pσ66 := fσ66.2.2.2
                                  try simp only [forall_eq, rII, rIJ, rIP, rJJ, rJI, rJP, rPP, rPI, rPJ, g1, g2, g3, g4, g5, g6, g7, g8, Nat.reduceEqDiff, Nat.reduceAdd, false_and, and_false, true_and, and_true, reduceIte, nZ0, nZ1, eσ66_38.1, eσ66_38.2, eσ66_81.1, eσ66_81.2, fun a k => (jσ66 a k).1, fun a k => (jσ66 a k).2, pσ66]
                                  unfold w_X16_takeJoin_349
                                  try simp only [forall_eq, rII, rIJ, rIP, rJJ, rJI, rJP, rPP, rPI, rPJ, g1, g2, g3, g4, g5, g6, g7, g8, Nat.reduceEqDiff, Nat.reduceAdd, false_and, and_false, true_and, and_true, reduceIte, nZ0, nZ1, eσ66_38.1, eσ66_38.2, eσ66_81.1, eσ66_81.2, fun a k => (jσ66 a k).1, fun a k => (jσ66 a k).2, pσ66]
                                  refine s_X16_emit (b4 := (ra 82)) (n4 := 16) g rσ66 (by first | exact hj | (rw [fσ66.2.2.2]; exact hj)) hja rfl (Or.inl ⟨82, rfl, by decide⟩) (by assumption) (by (try simp only [rII, rIJ, rIP, rJJ, rJI, rJP, rPP, rPI, rPJ, g1, g2, g3, g4, g5, g6, g7, g8, Nat.reduceEqDiff, Nat.reduceAdd, false_and, and_false, true_and, and_true, reduceIte, nZ0, nZ1, eσ66_38.1, eσ66_38.2, eσ66_81.1, eσ66_81.2, fun a k => (jσ66 a k).1, fun a k => (jσ66 a k).2, pσ66]) <;> (first | omega | with_reducible assumption | (unfold rng; omega) | (unfold rng; (repeat' split) <;> omega) | grind)) (by (try simp only [rII, rIJ, rIP, rJJ, rJI, rJP, rPP, rPI, rPJ, g1, g2, g3, g4, g5, g6, g7, g8, Nat.reduceEqDiff, Nat.reduceAdd, false_and, and_false, true_and, and_true, reduceIte, nZ0, nZ1, eσ66_38.1, eσ66_38.2, eσ66_81.1, eσ66_81.2, fun a k => (jσ66 a k).1, fun a k => (jσ66 a k).2, pσ66]) <;> (unfold maxJ; split <;> first | exact h4 | exact rτ246.2.2.2 71 _)) (by (try simp only [rII, rIJ, rIP, rJJ, rJI, rJP, rPP, rPI, rPJ, g1, g2, g3, g4, g5, g6, g7, g8, Nat.reduceEqDiff, Nat.reduceAdd, false_and, and_false, true_and, and_true, reduceIte, nZ0, nZ1, eσ66_38.1, eσ66_38.2, eσ66_81.1, eσ66_81.2, fun a k => (jσ66 a k).1, fun a k => (jσ66 a k).2, pσ66]) <;> (first | omega | with_reducible assumption | (unfold rng; omega) | (unfold rng; (repeat' split) <;> omega) | grind)) (by (try simp only [rII, rIJ, rIP, rJJ, rJI, rJP, rPP, rPI, rPJ, g1, g2, g3, g4, g5, g6, g7, g8, Nat.reduceEqDiff, Nat.reduceAdd, false_and, and_false, true_and, and_true, reduceIte, nZ0, nZ1, eσ66_38.1, eσ66_38.2, eσ66_81.1, eσ66_81.2, fun a k => (jσ66 a k).1, fun a k => (jσ66 a k).2, pσ66]) <;> (first | omega | with_reducible assumption | (unfold rng; omega) | (unfold rng; (repeat' split) <;> omega) | grind)) (by (try simp only [rII, rIJ, rIP, rJJ, rJI, rJP, rPP, rPI, rPJ, g1, g2, g3, g4, g5, g6, g7, g8, Nat.reduceEqDiff, Nat.reduceAdd, false_and, and_false, true_and, and_true, reduceIte, nZ0, nZ1, eσ66_38.1, eσ66_38.2, eσ66_81.1, eσ66_81.2, fun a k => (jσ66 a k).1, fun a k => (jσ66 a k).2, pσ66]) <;> (first | omega | with_reducible assumption | (unfold rng; omega) | (unfold rng; (repeat' split) <;> omega) | grind)) (by (try simp only [rII, rIJ, rIP, rJJ, rJI, rJP, rPP, rPI, rPJ, g1, g2, g3, g4, g5, g6, g7, g8, Nat.reduceEqDiff, Nat.reduceAdd, false_and, and_false, true_and, and_true, reduceIte, nZ0, nZ1, eσ66_38.1, eσ66_38.2, eσ66_81.1, eσ66_81.2, fun a k => (jσ66 a k).1, fun a k => (jσ66 a k).2, pσ66]) <;> first | exact hp | (rw [(fσ66.2.1 33 (by decide)).1]; exact hp)) (fun σ68 _ rσ68 fc p27 => ?_) (fun σx E rx fx px => hX _ _ rx (Fr.tr fσ66 (Fr.mor (fx) (by decide) (by decide))) ⟨px.1, px.2, _, _, RecI.fr (by assumption) fx (by decide) (by decide), MtI.fr (by assumption) fx (by decide)⟩)
                                  have fσ68 : Fr ra jx rm [26, 46, 47, 48, 49, 60, 61, 62, 63, 64, 65, 68, 69, 70, 71, 72, 73, 74, 75, 76, 77, 78, 82] [27, 66, 67, 79, 80] σ σ68 := Fr.tr fσ66 (Fr.mor (fc) (by decide) (by decide))
                                  have pe9 := p27
                                  have re9 := RecI.fr (by assumption) fc (by decide) (by decide)
                                  have me9 := MtI.fr (by assumption) fc (by decide)
                                  have e78e := congrFun (fc.1 78 (by decide)).1 v1.toNat
                                  have eσ68_38 := fσ68.1 38 (by decide)
                                  have eσ68_81 := fσ68.1 81 (by decide)
                                  have jσ68 := fσ68.2.2.1
                                  have pσ68 := fσ68.2.2.2
                                  try simp only [forall_eq, rII, rIJ, rIP, rJJ, rJI, rJP, rPP, rPI, rPJ, g1, g2, g3, g4, g5, g6, g7, g8, Nat.reduceEqDiff, Nat.reduceAdd, false_and, and_false, true_and, and_true, reduceIte, nZ0, nZ1, eσ68_38.1, eσ68_38.2, eσ68_81.1, eσ68_81.2, fun a k => (jσ68 a k).1, fun a k => (jσ68 a k).2, pσ68]
                                  unfold w_X16_takeJoin_352
                                  try simp only [forall_eq, rII, rIJ, rIP, rJJ, rJI, rJP, rPP, rPI, rPJ, g1, g2, g3, g4, g5, g6, g7, g8, Nat.reduceEqDiff, Nat.reduceAdd, false_and, and_false, true_and, and_true, reduceIte, nZ0, nZ1, eσ68_38.1, eσ68_38.2, eσ68_81.1, eσ68_81.2, fun a k => (jσ68 a k).1, fun a k => (jσ68 a k).2, pσ68]
                                  have n9 := RecI.nd (by assumption) hov h1
                                  have n91 := n9.1; have n92 := n9.2.1; have n93 := n9.2.2.1; have n94 := n9.2.2.2
                                  refine ⟨by (first | omega | with_reducible assumption | (unfold rng; omega) | (unfold rng; (repeat' split) <;> omega) | grind), ?_⟩
                                  have q28 := rσ68.1 75 (v11.toNat); simp only [rgT] at q28
                                  refine ih78 _ _ ?_ ?_ ?_ ?_
                                  · exact rσ68
                                  · exact fσ68
                                  · first | exact ⟨hr0, hm0, hth, hr0.hd h1⟩ | (refine ⟨by with_reducible assumption, by with_reducible assumption, by with_reducible assumption, ?_⟩; exact n9.2.2.2.elim (fun q => Or.inl q.2) (fun q => Or.inr q.2.1))
                                  · (try simp only [rII, rIJ, rIP, rJJ, rJI, rJP, rPP, rPI, rPJ, g1, g2, g3, g4, g5, g6, g7, g8, Nat.reduceEqDiff, Nat.reduceAdd, false_and, and_false, true_and, and_true, reduceIte, nZ0, nZ1, eσ68_38.1, eσ68_38.2, eσ68_81.1, eσ68_81.2, fun a k => (jσ68 a k).1, fun a k => (jσ68 a k).2, pσ68]) <;> (first | omega | with_reducible assumption | (unfold rng; omega) | (unfold rng; (repeat' split) <;> omega) | grind)
                                · rename_i hc250
                                  skip
                                  unfold w_X16_takeJoin_253
                                  try simp only [forall_eq, rII, rIJ, rIP, rJJ, rJI, rJP, rPP, rPI, rPJ, g1, g2, g3, g4, g5, g6, g7, g8, Nat.reduceEqDiff, Nat.reduceAdd, false_and, and_false, true_and, and_true, reduceIte, nZ0, nZ1, eτ246_38.1, eτ246_38.2, eτ246_81.1, eτ246_81.2, fun a k => (jτ246 a k).1, fun a k => (jτ246 a k).2, pτ246]
                                  refine ⟨by (first | omega | with_reducible assumption | (unfold rng; omega) | (unfold rng; (repeat' split) <;> omega) | grind), ?_⟩
                                  split
                                  · rename_i hc264
                                    skip
                                    unfold w_X16_takeJoin_277
                                    try simp only [forall_eq, rII, rIJ, rIP, rJJ, rJI, rJP, rPP, rPI, rPJ, g1, g2, g3, g4, g5, g6, g7, g8, Nat.reduceEqDiff, Nat.reduceAdd, false_and, and_false, true_and, and_true, reduceIte, nZ0, nZ1, eτ246_38.1, eτ246_38.2, eτ246_81.1, eτ246_81.2, fun a k => (jτ246 a k).1, fun a k => (jτ246 a k).2, pτ246]
                                    refine ⟨by (first | omega | with_reducible assumption | (unfold rng; omega) | (unfold rng; (repeat' split) <;> omega) | grind), ?_⟩
                                    refine ⟨by (first | omega | with_reducible assumption | (unfold rng; omega) | (unfold rng; (repeat' split) <;> omega) | grind), ?_⟩
                                    refine ⟨by (first | omega | with_reducible assumption | (unfold rng; omega) | (unfold rng; (repeat' split) <;> omega) | grind), ?_⟩
                                    unfold w_X16_takeJoin_290
                                    try simp only [forall_eq, rII, rIJ, rIP, rJJ, rJI, rJP, rPP, rPI, rPJ, g1, g2, g3, g4, g5, g6, g7, g8, Nat.reduceEqDiff, Nat.reduceAdd, false_and, and_false, true_and, and_true, reduceIte, nZ0, nZ1, eτ246_38.1, eτ246_38.2, eτ246_81.1, eτ246_81.2, fun a k => (jτ246 a k).1, fun a k => (jτ246 a k).2, pτ246]
                                    refine ⟨by (first | omega | with_reducible assumption | (unfold rng; omega) | (unfold rng; (repeat' split) <;> omega) | grind), ?_⟩
                                    refine ⟨by (first | omega | with_reducible assumption | (unfold rng; omega) | (unfold rng; (repeat' split) <;> omega) | grind), ?_⟩
                                    refine ih246 _ _ ?_ ?_ ?_ ?_
                                    · refine Rg.aJ g ?_ (by simp only [rlT]; first | with_reducible assumption | omega | exact Int64.toInt_le _ | (rw [Int64.toInt_ofInt_of_le (by omega) (by omega)]; omega) | grind); exact rτ246
                                    · refine Fr.aJ g ?_ (by decide); exact fτ246
                                    · refine ⟨?_, ?_, ?_, ?_, ?_, ?_⟩ <;> (first | with_reducible assumption | omega | exact RecI.fr (jx := jx) (K := [82]) (S := []) (by assumption) (by repeat (first | exact Fr.rf | assumption | refine Fr.aJ g ?_ (by decide) | refine Fr.aI g ?_ (by decide) | refine Fr.sI g ?_ (by decide) | refine Fr.sJ g ?_ (by decide))) (by decide) (by decide) | exact MtI.fr (rm := rm) (K := [82]) (S := []) (by assumption) (by repeat (first | exact Fr.rf | assumption | refine Fr.aJ g ?_ (by decide) | refine Fr.aI g ?_ (by decide) | refine Fr.sI g ?_ (by decide) | refine Fr.sJ g ?_ (by decide))) (by decide) | exact ThE.fr (jx := jx) (K := [82]) (S := []) (by assumption) (by repeat (first | exact Fr.rf | assumption | refine Fr.aJ g ?_ (by decide) | refine Fr.aI g ?_ (by decide) | refine Fr.sI g ?_ (by decide) | refine Fr.sJ g ?_ (by decide))) (by decide) (by decide) | exact HeE.fr (jx := jx) (K := [82]) (S := []) (by assumption) (by repeat (first | exact Fr.rf | assumption | refine Fr.aJ g ?_ (by decide) | refine Fr.aI g ?_ (by decide) | refine Fr.sI g ?_ (by decide) | refine Fr.sJ g ?_ (by decide))) (by decide) (by decide) | ((try simp only [rII, rIJ, rIP, rJJ, rJI, rJP, rPP, rPI, rPJ, g1, g2, g3, g4, g5, g6, g7, g8, Nat.reduceEqDiff, Nat.reduceAdd, false_and, and_false, true_and, and_true, reduceIte, nZ0, nZ1, eτ246_38.1, eτ246_38.2, eτ246_81.1, eτ246_81.2, fun a k => (jτ246 a k).1, fun a k => (jτ246 a k).2, pτ246]) <;> first | omega | assumption | grind))
                                    · (try simp only [rII, rIJ, rIP, rJJ, rJI, rJP, rPP, rPI, rPJ, g1, g2, g3, g4, g5, g6, g7, g8, Nat.reduceEqDiff, Nat.reduceAdd, false_and, and_false, true_and, and_true, reduceIte, nZ0, nZ1, eτ246_38.1, eτ246_38.2, eτ246_81.1, eτ246_81.2, fun a k => (jτ246 a k).1, fun a k => (jτ246 a k).2, pτ246]) <;> (first | omega | with_reducible assumption | (unfold rng; omega) | (unfold rng; (repeat' split) <;> omega) | grind)
                                  · rename_i hc264
                                    skip
                                    unfold w_X16_takeJoin_267
                                    try simp only [forall_eq, rII, rIJ, rIP, rJJ, rJI, rJP, rPP, rPI, rPJ, g1, g2, g3, g4, g5, g6, g7, g8, Nat.reduceEqDiff, Nat.reduceAdd, false_and, and_false, true_and, and_true, reduceIte, nZ0, nZ1, eτ246_38.1, eτ246_38.2, eτ246_81.1, eτ246_81.2, fun a k => (jτ246 a k).1, fun a k => (jτ246 a k).2, pτ246]
                                    refine ⟨by (first | omega | with_reducible assumption | (unfold rng; omega) | (unfold rng; (repeat' split) <;> omega) | grind), ?_⟩
                                    unfold w_X16_takeJoin_290
                                    try simp only [forall_eq, rII, rIJ, rIP, rJJ, rJI, rJP, rPP, rPI, rPJ, g1, g2, g3, g4, g5, g6, g7, g8, Nat.reduceEqDiff, Nat.reduceAdd, false_and, and_false, true_and, and_true, reduceIte, nZ0, nZ1, eτ246_38.1, eτ246_38.2, eτ246_81.1, eτ246_81.2, fun a k => (jτ246 a k).1, fun a k => (jτ246 a k).2, pτ246]
                                    refine ⟨by (first | omega | with_reducible assumption | (unfold rng; omega) | (unfold rng; (repeat' split) <;> omega) | grind), ?_⟩
                                    refine ⟨by (first | omega | with_reducible assumption | (unfold rng; omega) | (unfold rng; (repeat' split) <;> omega) | grind), ?_⟩
                                    refine ih246 _ _ ?_ ?_ ?_ ?_
                                    · refine Rg.aJ g ?_ (by simp only [rlT]; first | with_reducible assumption | omega | exact Int64.toInt_le _ | (rw [Int64.toInt_ofInt_of_le (by omega) (by omega)]; omega) | grind); exact rτ246
                                    · refine Fr.aJ g ?_ (by decide); exact fτ246
                                    · refine ⟨?_, ?_, ?_, ?_, ?_, ?_⟩ <;> (first | with_reducible assumption | omega | exact RecI.fr (jx := jx) (K := [82]) (S := []) (by assumption) (by repeat (first | exact Fr.rf | assumption | refine Fr.aJ g ?_ (by decide) | refine Fr.aI g ?_ (by decide) | refine Fr.sI g ?_ (by decide) | refine Fr.sJ g ?_ (by decide))) (by decide) (by decide) | exact MtI.fr (rm := rm) (K := [82]) (S := []) (by assumption) (by repeat (first | exact Fr.rf | assumption | refine Fr.aJ g ?_ (by decide) | refine Fr.aI g ?_ (by decide) | refine Fr.sI g ?_ (by decide) | refine Fr.sJ g ?_ (by decide))) (by decide) | exact ThE.fr (jx := jx) (K := [82]) (S := []) (by assumption) (by repeat (first | exact Fr.rf | assumption | refine Fr.aJ g ?_ (by decide) | refine Fr.aI g ?_ (by decide) | refine Fr.sI g ?_ (by decide) | refine Fr.sJ g ?_ (by decide))) (by decide) (by decide) | exact HeE.fr (jx := jx) (K := [82]) (S := []) (by assumption) (by repeat (first | exact Fr.rf | assumption | refine Fr.aJ g ?_ (by decide) | refine Fr.aI g ?_ (by decide) | refine Fr.sI g ?_ (by decide) | refine Fr.sJ g ?_ (by decide))) (by decide) (by decide) | ((try simp only [rII, rIJ, rIP, rJJ, rJI, rJP, rPP, rPI, rPJ, g1, g2, g3, g4, g5, g6, g7, g8, Nat.reduceEqDiff, Nat.reduceAdd, false_and, and_false, true_and, and_true, reduceIte, nZ0, nZ1, eτ246_38.1, eτ246_38.2, eτ246_81.1, eτ246_81.2, fun a k => (jτ246 a k).1, fun a k => (jτ246 a k).2, pτ246]) <;> first | omega | assumption | grind))
                                    · (try simp only [rII, rIJ, rIP, rJJ, rJI, rJP, rPP, rPI, rPJ, g1, g2, g3, g4, g5, g6, g7, g8, Nat.reduceEqDiff, Nat.reduceAdd, false_and, and_false, true_and, and_true, reduceIte, nZ0, nZ1, eτ246_38.1, eτ246_38.2, eτ246_81.1, eτ246_81.2, fun a k => (jτ246 a k).1, fun a k => (jτ246 a k).2, pτ246]) <;> (first | omega | with_reducible assumption | (unfold rng; omega) | (unfold rng; (repeat' split) <;> omega) | grind)
                            refine ⟨_, L246 _ _ _ ?_ ?_ ?_ (Nat.lt_succ_self _)⟩
                            · exact rτ196
                            · exact fτ196
                            · refine ⟨?_, ?_, ?_, ?_, ?_, ?_⟩ <;> (first | with_reducible assumption | omega | exact RecI.fr (jx := jx) (K := [82]) (S := []) (by assumption) (by repeat (first | exact Fr.rf | assumption | refine Fr.aJ g ?_ (by decide) | refine Fr.aI g ?_ (by decide) | refine Fr.sI g ?_ (by decide) | refine Fr.sJ g ?_ (by decide))) (by decide) (by decide) | exact MtI.fr (rm := rm) (K := [82]) (S := []) (by assumption) (by repeat (first | exact Fr.rf | assumption | refine Fr.aJ g ?_ (by decide) | refine Fr.aI g ?_ (by decide) | refine Fr.sI g ?_ (by decide) | refine Fr.sJ g ?_ (by decide))) (by decide) | exact ThE.fr (jx := jx) (K := [82]) (S := []) (by assumption) (by repeat (first | exact Fr.rf | assumption | refine Fr.aJ g ?_ (by decide) | refine Fr.aI g ?_ (by decide) | refine Fr.sI g ?_ (by decide) | refine Fr.sJ g ?_ (by decide))) (by decide) (by decide) | exact HeE.fr (jx := jx) (K := [82]) (S := []) (by assumption) (by repeat (first | exact Fr.rf | assumption | refine Fr.aJ g ?_ (by decide) | refine Fr.aI g ?_ (by decide) | refine Fr.sI g ?_ (by decide) | refine Fr.sJ g ?_ (by decide))) (by decide) (by decide) | ((try simp only [rII, rIJ, rIP, rJJ, rJI, rJP, rPP, rPI, rPJ, g1, g2, g3, g4, g5, g6, g7, g8, Nat.reduceEqDiff, Nat.reduceAdd, false_and, and_false, true_and, and_true, reduceIte, nZ0, nZ1, eτ196_38.1, eτ196_38.2, eτ196_81.1, eτ196_81.2, fun a k => (jτ196 a k).1, fun a k => (jτ196 a k).2, pτ196]) <;> first | omega | assumption | grind))
                          · rename_i hc200
                            skip
                            unfold w_X16_takeJoin_203
                            try simp only [forall_eq, rII, rIJ, rIP, rJJ, rJI, rJP, rPP, rPI, rPJ, g1, g2, g3, g4, g5, g6, g7, g8, Nat.reduceEqDiff, Nat.reduceAdd, false_and, and_false, true_and, and_true, reduceIte, nZ0, nZ1, eτ196_38.1, eτ196_38.2, eτ196_81.1, eτ196_81.2, fun a k => (jτ196 a k).1, fun a k => (jτ196 a k).2, pτ196]
                            rw [if_neg hc43]
                            unfold w_X16_takeJoin_213
                            try simp only [forall_eq, rII, rIJ, rIP, rJJ, rJI, rJP, rPP, rPI, rPJ, g1, g2, g3, g4, g5, g6, g7, g8, Nat.reduceEqDiff, Nat.reduceAdd, false_and, and_false, true_and, and_true, reduceIte, nZ0, nZ1, eτ196_38.1, eτ196_38.2, eτ196_81.1, eτ196_81.2, fun a k => (jτ196 a k).1, fun a k => (jτ196 a k).2, pτ196]
                            refine ⟨by (first | omega | with_reducible assumption | (unfold rng; omega) | (unfold rng; (repeat' split) <;> omega) | grind), ?_⟩
                            unfold w_X16_takeJoin_236
                            try simp only [forall_eq, rII, rIJ, rIP, rJJ, rJI, rJP, rPP, rPI, rPJ, g1, g2, g3, g4, g5, g6, g7, g8, Nat.reduceEqDiff, Nat.reduceAdd, false_and, and_false, true_and, and_true, reduceIte, nZ0, nZ1, eτ196_38.1, eτ196_38.2, eτ196_81.1, eτ196_81.2, fun a k => (jτ196 a k).1, fun a k => (jτ196 a k).2, pτ196]
                            refine ⟨by (first | omega | with_reducible assumption | (unfold rng; omega) | (unfold rng; (repeat' split) <;> omega) | grind), ?_⟩
                            refine ⟨by (first | omega | with_reducible assumption | (unfold rng; omega) | (unfold rng; (repeat' split) <;> omega) | grind), ?_⟩
                            refine ih196 _ _ ?_ ?_ ?_ ?_
                            · refine Rg.aJ g ?_ (by simp only [rlT]; first | with_reducible assumption | omega | exact Int64.toInt_le _ | (rw [Int64.toInt_ofInt_of_le (by omega) (by omega)]; omega) | grind); exact rτ196
                            · refine Fr.aJ g ?_ (by decide); exact fτ196
                            · refine ⟨?_, ?_, ?_, ?_, ?_, ?_⟩ <;> (first | with_reducible assumption | omega | exact RecI.fr (jx := jx) (K := [82]) (S := []) (by assumption) (by repeat (first | exact Fr.rf | assumption | refine Fr.aJ g ?_ (by decide) | refine Fr.aI g ?_ (by decide) | refine Fr.sI g ?_ (by decide) | refine Fr.sJ g ?_ (by decide))) (by decide) (by decide) | exact MtI.fr (rm := rm) (K := [82]) (S := []) (by assumption) (by repeat (first | exact Fr.rf | assumption | refine Fr.aJ g ?_ (by decide) | refine Fr.aI g ?_ (by decide) | refine Fr.sI g ?_ (by decide) | refine Fr.sJ g ?_ (by decide))) (by decide) | exact ThE.fr (jx := jx) (K := [82]) (S := []) (by assumption) (by repeat (first | exact Fr.rf | assumption | refine Fr.aJ g ?_ (by decide) | refine Fr.aI g ?_ (by decide) | refine Fr.sI g ?_ (by decide) | refine Fr.sJ g ?_ (by decide))) (by decide) (by decide) | exact HeE.fr (jx := jx) (K := [82]) (S := []) (by assumption) (by repeat (first | exact Fr.rf | assumption | refine Fr.aJ g ?_ (by decide) | refine Fr.aI g ?_ (by decide) | refine Fr.sI g ?_ (by decide) | refine Fr.sJ g ?_ (by decide))) (by decide) (by decide) | ((try simp only [rII, rIJ, rIP, rJJ, rJI, rJP, rPP, rPI, rPJ, g1, g2, g3, g4, g5, g6, g7, g8, Nat.reduceEqDiff, Nat.reduceAdd, false_and, and_false, true_and, and_true, reduceIte, nZ0, nZ1, eτ196_38.1, eτ196_38.2, eτ196_81.1, eτ196_81.2, fun a k => (jτ196 a k).1, fun a k => (jτ196 a k).2, pτ196]) <;> first | omega | assumption | grind))
                            · (try simp only [rII, rIJ, rIP, rJJ, rJI, rJP, rPP, rPI, rPJ, g1, g2, g3, g4, g5, g6, g7, g8, Nat.reduceEqDiff, Nat.reduceAdd, false_and, and_false, true_and, and_true, reduceIte, nZ0, nZ1, eτ196_38.1, eτ196_38.2, eτ196_81.1, eτ196_81.2, fun a k => (jτ196 a k).1, fun a k => (jτ196 a k).2, pτ196]) <;> (first | omega | with_reducible assumption | (unfold rng; omega) | (unfold rng; (repeat' split) <;> omega) | grind)
                      refine ⟨_, L196 _ _ _ ?_ ?_ ?_ (Nat.lt_succ_self _)⟩
                      · exact rτ172
                      · exact fτ172
                      · refine ⟨?_, ?_, ?_, ?_, ?_, ?_⟩ <;> (first | with_reducible assumption | omega | exact RecI.fr (jx := jx) (K := [82]) (S := []) (by assumption) (by repeat (first | exact Fr.rf | assumption | refine Fr.aJ g ?_ (by decide) | refine Fr.aI g ?_ (by decide) | refine Fr.sI g ?_ (by decide) | refine Fr.sJ g ?_ (by decide))) (by decide) (by decide) | exact MtI.fr (rm := rm) (K := [82]) (S := []) (by assumption) (by repeat (first | exact Fr.rf | assumption | refine Fr.aJ g ?_ (by decide) | refine Fr.aI g ?_ (by decide) | refine Fr.sI g ?_ (by decide) | refine Fr.sJ g ?_ (by decide))) (by decide) | exact ThE.fr (jx := jx) (K := [82]) (S := []) (by assumption) (by repeat (first | exact Fr.rf | assumption | refine Fr.aJ g ?_ (by decide) | refine Fr.aI g ?_ (by decide) | refine Fr.sI g ?_ (by decide) | refine Fr.sJ g ?_ (by decide))) (by decide) (by decide) | exact HeE.fr (jx := jx) (K := [82]) (S := []) (by assumption) (by repeat (first | exact Fr.rf | assumption | refine Fr.aJ g ?_ (by decide) | refine Fr.aI g ?_ (by decide) | refine Fr.sI g ?_ (by decide) | refine Fr.sJ g ?_ (by decide))) (by decide) (by decide) | ((try simp only [rII, rIJ, rIP, rJJ, rJI, rJP, rPP, rPI, rPJ, g1, g2, g3, g4, g5, g6, g7, g8, Nat.reduceEqDiff, Nat.reduceAdd, false_and, and_false, true_and, and_true, reduceIte, nZ0, nZ1, eτ172_38.1, eτ172_38.2, eτ172_81.1, eτ172_81.2, fun a k => (jτ172 a k).1, fun a k => (jτ172 a k).2, pτ172]) <;> first | omega | assumption | grind))
                    · rename_i hc176
                      skip
                      unfold w_X16_takeJoin_179
                      try simp only [forall_eq, rII, rIJ, rIP, rJJ, rJI, rJP, rPP, rPI, rPJ, g1, g2, g3, g4, g5, g6, g7, g8, Nat.reduceEqDiff, Nat.reduceAdd, false_and, and_false, true_and, and_true, reduceIte, nZ0, nZ1, eτ172_38.1, eτ172_38.2, eτ172_81.1, eτ172_81.2, fun a k => (jτ172 a k).1, fun a k => (jτ172 a k).2, pτ172]
                      refine ⟨by (first | omega | with_reducible assumption | (unfold rng; omega) | (unfold rng; (repeat' split) <;> omega) | grind), ?_⟩
                      refine ⟨by (first | omega | with_reducible assumption | (unfold rng; omega) | (unfold rng; (repeat' split) <;> omega) | grind), ?_⟩
                      refine ih172 _ _ ?_ ?_ ?_ ?_
                      · refine Rg.aJ g ?_ (by simp only [rlT]; first | with_reducible assumption | omega | exact Int64.toInt_le _ | (rw [Int64.toInt_ofInt_of_le (by omega) (by omega)]; omega) | grind); exact rτ172
                      · refine Fr.aJ g ?_ (by decide); exact fτ172
                      · refine ⟨?_, ?_, ?_, ?_, ?_, ?_⟩ <;> (first | with_reducible assumption | omega | exact RecI.fr (jx := jx) (K := [82]) (S := []) (by assumption) (by repeat (first | exact Fr.rf | assumption | refine Fr.aJ g ?_ (by decide) | refine Fr.aI g ?_ (by decide) | refine Fr.sI g ?_ (by decide) | refine Fr.sJ g ?_ (by decide))) (by decide) (by decide) | exact MtI.fr (rm := rm) (K := [82]) (S := []) (by assumption) (by repeat (first | exact Fr.rf | assumption | refine Fr.aJ g ?_ (by decide) | refine Fr.aI g ?_ (by decide) | refine Fr.sI g ?_ (by decide) | refine Fr.sJ g ?_ (by decide))) (by decide) | exact ThE.fr (jx := jx) (K := [82]) (S := []) (by assumption) (by repeat (first | exact Fr.rf | assumption | refine Fr.aJ g ?_ (by decide) | refine Fr.aI g ?_ (by decide) | refine Fr.sI g ?_ (by decide) | refine Fr.sJ g ?_ (by decide))) (by decide) (by decide) | exact HeE.fr (jx := jx) (K := [82]) (S := []) (by assumption) (by repeat (first | exact Fr.rf | assumption | refine Fr.aJ g ?_ (by decide) | refine Fr.aI g ?_ (by decide) | refine Fr.sI g ?_ (by decide) | refine Fr.sJ g ?_ (by decide))) (by decide) (by decide) | ((try simp only [rII, rIJ, rIP, rJJ, rJI, rJP, rPP, rPI, rPJ, g1, g2, g3, g4, g5, g6, g7, g8, Nat.reduceEqDiff, Nat.reduceAdd, false_and, and_false, true_and, and_true, reduceIte, nZ0, nZ1, eτ172_38.1, eτ172_38.2, eτ172_81.1, eτ172_81.2, fun a k => (jτ172 a k).1, fun a k => (jτ172 a k).2, pτ172]) <;> first | omega | assumption | grind))
                      · (try simp only [rII, rIJ, rIP, rJJ, rJI, rJP, rPP, rPI, rPJ, g1, g2, g3, g4, g5, g6, g7, g8, Nat.reduceEqDiff, Nat.reduceAdd, false_and, and_false, true_and, and_true, reduceIte, nZ0, nZ1, eτ172_38.1, eτ172_38.2, eτ172_81.1, eτ172_81.2, fun a k => (jτ172 a k).1, fun a k => (jτ172 a k).2, pτ172]) <;> (first | omega | with_reducible assumption | (unfold rng; omega) | (unfold rng; (repeat' split) <;> omega) | grind)
                refine ⟨_, L172 _ _ _ ?_ ?_ ?_ (Nat.lt_succ_self _)⟩
                · exact rτ78
                · exact fτ78
                · refine ⟨?_, ?_, ?_, ?_, ?_, ?_⟩ <;> (first | with_reducible assumption | omega | exact RecI.fr (jx := jx) (K := [82]) (S := []) (by assumption) (by repeat (first | exact Fr.rf | assumption | refine Fr.aJ g ?_ (by decide) | refine Fr.aI g ?_ (by decide) | refine Fr.sI g ?_ (by decide) | refine Fr.sJ g ?_ (by decide))) (by decide) (by decide) | exact MtI.fr (rm := rm) (K := [82]) (S := []) (by assumption) (by repeat (first | exact Fr.rf | assumption | refine Fr.aJ g ?_ (by decide) | refine Fr.aI g ?_ (by decide) | refine Fr.sI g ?_ (by decide) | refine Fr.sJ g ?_ (by decide))) (by decide) | exact ThE.fr (jx := jx) (K := [82]) (S := []) (by assumption) (by repeat (first | exact Fr.rf | assumption | refine Fr.aJ g ?_ (by decide) | refine Fr.aI g ?_ (by decide) | refine Fr.sI g ?_ (by decide) | refine Fr.sJ g ?_ (by decide))) (by decide) (by decide) | exact HeE.fr (jx := jx) (K := [82]) (S := []) (by assumption) (by repeat (first | exact Fr.rf | assumption | refine Fr.aJ g ?_ (by decide) | refine Fr.aI g ?_ (by decide) | refine Fr.sI g ?_ (by decide) | refine Fr.sJ g ?_ (by decide))) (by decide) (by decide) | ((try simp only [rII, rIJ, rIP, rJJ, rJI, rJP, rPP, rPI, rPJ, g1, g2, g3, g4, g5, g6, g7, g8, Nat.reduceEqDiff, Nat.reduceAdd, false_and, and_false, true_and, and_true, reduceIte, nZ0, nZ1, eτ78_38.1, eτ78_38.2, eτ78_81.1, eτ78_81.2, fun a k => (jτ78 a k).1, fun a k => (jτ78 a k).2, pτ78]) <;> first | omega | assumption | grind))
              · rename_i hc163
                skip
                unfold w_X16_takeJoin_166
                try simp only [forall_eq, rII, rIJ, rIP, rJJ, rJI, rJP, rPP, rPI, rPJ, g1, g2, g3, g4, g5, g6, g7, g8, Nat.reduceEqDiff, Nat.reduceAdd, false_and, and_false, true_and, and_true, reduceIte, nZ0, nZ1, eτ78_38.1, eτ78_38.2, eτ78_81.1, eτ78_81.2, fun a k => (jτ78 a k).1, fun a k => (jτ78 a k).2, pτ78]
                unfold w_X16_takeJoin_352
                try simp only [forall_eq, rII, rIJ, rIP, rJJ, rJI, rJP, rPP, rPI, rPJ, g1, g2, g3, g4, g5, g6, g7, g8, Nat.reduceEqDiff, Nat.reduceAdd, false_and, and_false, true_and, and_true, reduceIte, nZ0, nZ1, eτ78_38.1, eτ78_38.2, eτ78_81.1, eτ78_81.2, fun a k => (jτ78 a k).1, fun a k => (jτ78 a k).2, pτ78]
                have n9 := RecI.nd (by assumption) hov h1
                have n91 := n9.1; have n92 := n9.2.1; have n93 := n9.2.2.1; have n94 := n9.2.2.2
                refine ⟨by (first | omega | with_reducible assumption | (unfold rng; omega) | (unfold rng; (repeat' split) <;> omega) | grind), ?_⟩
                have q29 := rτ78.1 75 (v11.toNat); simp only [rgT] at q29
                refine ih78 _ _ ?_ ?_ ?_ ?_
                · exact rτ78
                · exact fτ78
                · first | exact ⟨hr0, hm0, hth, hr0.hd h1⟩ | (refine ⟨by with_reducible assumption, by with_reducible assumption, by with_reducible assumption, ?_⟩; exact n9.2.2.2.elim (fun q => Or.inl q.2) (fun q => Or.inr q.2.1))
                · (try simp only [rII, rIJ, rIP, rJJ, rJI, rJP, rPP, rPI, rPJ, g1, g2, g3, g4, g5, g6, g7, g8, Nat.reduceEqDiff, Nat.reduceAdd, false_and, and_false, true_and, and_true, reduceIte, nZ0, nZ1, eτ78_38.1, eτ78_38.2, eτ78_81.1, eτ78_81.2, fun a k => (jτ78 a k).1, fun a k => (jτ78 a k).2, pτ78]) <;> (first | omega | with_reducible assumption | (unfold rng; omega) | (unfold rng; (repeat' split) <;> omega) | grind)
            · rename_i hc105
              skip
              unfold w_X16_takeJoin_108
              try simp only [forall_eq, rII, rIJ, rIP, rJJ, rJI, rJP, rPP, rPI, rPJ, g1, g2, g3, g4, g5, g6, g7, g8, Nat.reduceEqDiff, Nat.reduceAdd, false_and, and_false, true_and, and_true, reduceIte, nZ0, nZ1, eτ78_38.1, eτ78_38.2, eτ78_81.1, eτ78_81.2, fun a k => (jτ78 a k).1, fun a k => (jτ78 a k).2, pτ78]
              unfold w_X16_takeJoin_352
              try simp only [forall_eq, rII, rIJ, rIP, rJJ, rJI, rJP, rPP, rPI, rPJ, g1, g2, g3, g4, g5, g6, g7, g8, Nat.reduceEqDiff, Nat.reduceAdd, false_and, and_false, true_and, and_true, reduceIte, nZ0, nZ1, eτ78_38.1, eτ78_38.2, eτ78_81.1, eτ78_81.2, fun a k => (jτ78 a k).1, fun a k => (jτ78 a k).2, pτ78]
              have n9 := RecI.nd (by assumption) hov h1
              have n91 := n9.1; have n92 := n9.2.1; have n93 := n9.2.2.1; have n94 := n9.2.2.2
              refine ⟨by (first | omega | with_reducible assumption | (unfold rng; omega) | (unfold rng; (repeat' split) <;> omega) | grind), ?_⟩
              have q30 := rτ78.1 75 (v11.toNat); simp only [rgT] at q30
              refine ih78 _ _ ?_ ?_ ?_ ?_
              · exact rτ78
              · exact fτ78
              · first | exact ⟨hr0, hm0, hth, hr0.hd h1⟩ | (refine ⟨by with_reducible assumption, by with_reducible assumption, by with_reducible assumption, ?_⟩; exact n9.2.2.2.elim (fun q => Or.inl q.2) (fun q => Or.inr q.2.1))
              · (try simp only [rII, rIJ, rIP, rJJ, rJI, rJP, rPP, rPI, rPJ, g1, g2, g3, g4, g5, g6, g7, g8, Nat.reduceEqDiff, Nat.reduceAdd, false_and, and_false, true_and, and_true, reduceIte, nZ0, nZ1, eτ78_38.1, eτ78_38.2, eτ78_81.1, eτ78_81.2, fun a k => (jτ78 a k).1, fun a k => (jτ78 a k).2, pτ78]) <;> (first | omega | with_reducible assumption | (unfold rng; omega) | (unfold rng; (repeat' split) <;> omega) | grind)
    refine ⟨_, L78 _ _ _ ?_ ?_ ?_ (Nat.lt_succ_self _)⟩
    · exact rσ
    · exact fσ
    · first | exact ⟨hr0, hm0, hth, hr0.hd h1⟩ | (refine ⟨by with_reducible assumption, by with_reducible assumption, by with_reducible assumption, ?_⟩; exact n9.2.2.2.elim (fun q => Or.inl q.2) (fun q => Or.inr q.2.1))

set_option maxHeartbeats 8000000 in
theorem s_X16_see {ra : Nat → Nat} {jx : Nat → Nat → Nat} {rm : Nat} (g : Geo ra jx rm) {σ : Sg} (rσ : Rg ra jx rm σ) (hat : gI σ rm 7 ≤ gI σ rm 6) {Q : Sg → Unit → Prop} {X : Sg → String → Prop} (hQ : ∀ (σ' : Sg) (r : Unit), Rg ra jx rm σ' → Fr ra jx rm [] [4, 5, 7, 8, 9, 10, 11, 12, 13] σ σ' → (gI σ' rm 7 ≤ gI σ rm 6) → Q σ' r) (hX : ∀ (σ' : Sg) (E : String), Rg ra jx rm σ' → Fr ra jx rm [] [4, 5, 7, 8, 9, 10, 11, 12, 13] σ σ' → (E = "StreamHouseModel$Fault") → X σ' E) : wp_X16_see ra jx rm σ Q X := by
  obtain ⟨g1, g2, g3, g4, g5, g6, g7, g8⟩ := id g
  have fσ : Fr ra jx rm [] [4, 5, 7, 8, 9, 10, 11, 12, 13] σ σ := Fr.rf
  unfold wp_X16_see
  unfold w_X16_see_0
  try simp only [forall_eq, rII, rIJ, rIP, rJJ, rJI, rJP, rPP, rPI, rPJ, g1, g2, g3, g4, g5, g6, g7, g8, Nat.reduceEqDiff, Nat.reduceAdd, false_and, and_false, true_and, and_true, reduceIte, nZ0, nZ1]
  have q1 := rσ.2.1 8; simp only [rgS] at q1
  split
  · rename_i hc4
    skip
    have q2 := rσ.2.1 6; simp only [rgS] at q2
    have L8 : ∀ (fu8 : Nat) (τ8 : Sg), Rg ra jx rm τ8 → Fr ra jx rm [] [4, 5, 7, 8, 9, 10, 11, 12, 13] σ τ8 → (gI τ8 rm 7 ≤ gI σ rm 6) → ((gI σ rm 6 - gI τ8 rm 7).toNat) < fu8 → wl_X16_see_8 ra jx rm Q X fu8 τ8 := by
      intro fu8
      induction fu8 with
      | zero => intro τ8 _ _ _ h9; omega
      | succ fu8 ih8 =>
        intro τ8 rτ8 fτ8 hi8 hm8
        unfold wl_X16_see_8
        have sτ8_6 := fτ8.2.1 6 (by decide)
        have jτ8 := fτ8.2.2.1
        unfold w_X16_see_8
        try simp only [forall_eq, rII, rIJ, rIP, rJJ, rJI, rJP, rPP, rPI, rPJ, g1, g2, g3, g4, g5, g6, g7, g8, Nat.reduceEqDiff, Nat.reduceAdd, false_and, and_false, true_and, and_true, reduceIte, nZ0, nZ1, sτ8_6.1, sτ8_6.2, fun a k => (jτ8 a k).1, fun a k => (jτ8 a k).2]
        have q86 := rσ.2.1 6; simp only [rgS] at q86
        have q87 := rτ8.2.1 7; simp only [rgS] at q87
        have q3 := rτ8.2.1 7; simp only [rgS] at q3
        split
        · rename_i hc16
          skip
          unfold w_X16_see_45
          try simp only [forall_eq, rII, rIJ, rIP, rJJ, rJI, rJP, rPP, rPI, rPJ, g1, g2, g3, g4, g5, g6, g7, g8, Nat.reduceEqDiff, Nat.reduceAdd, false_and, and_false, true_and, and_true, reduceIte, nZ0, nZ1, sτ8_6.1, sτ8_6.2, fun a k => (jτ8 a k).1, fun a k => (jτ8 a k).2]
          split
          · rename_i hc66
            skip
            unfold w_X16_see_75
            try simp only [forall_eq, rII, rIJ, rIP, rJJ, rJI, rJP, rPP, rPI, rPJ, g1, g2, g3, g4, g5, g6, g7, g8, Nat.reduceEqDiff, Nat.reduceAdd, false_and, and_false, true_and, and_true, reduceIte, nZ0, nZ1, sτ8_6.1, sτ8_6.2, fun a k => (jτ8 a k).1, fun a k => (jτ8 a k).2]
            refine s_X16_byteAt g (by refine Rg.sI g ?_ (by simp only [rgS]; first | with_reducible exact nZ_rng _ | with_reducible exact nB_rng _ | with_reducible exact wr_rng _ | with_reducible exact i32any _ | (first | omega | with_reducible assumption | (unfold rng; omega) | (unfold rng; (repeat' split) <;> omega) | grind)); refine Rg.sI g ?_ (by simp only [rgS]; first | with_reducible exact nZ_rng _ | with_reducible exact nB_rng _ | with_reducible exact wr_rng _ | with_reducible exact i32any _ | (first | omega | with_reducible assumption | (unfold rng; omega) | (unfold rng; (repeat' split) <;> omega) | grind)); exact rτ8) (by (try simp only [rII, rIJ, rIP, rJJ, rJI, rJP, rPP, rPI, rPJ, g1, g2, g3, g4, g5, g6, g7, g8, Nat.reduceEqDiff, Nat.reduceAdd, false_and, and_false, true_and, and_true, reduceIte, nZ0, nZ1, sτ8_6.1, sτ8_6.2, fun a k => (jτ8 a k).1, fun a k => (jτ8 a k).2]) <;> (first | omega | with_reducible assumption | (unfold rng; omega) | (unfold rng; (repeat' split) <;> omega) | grind)) (fun r86 p4 => ?_)
            try simp only [forall_eq, rII, rIJ, rIP, rJJ, rJI, rJP, rPP, rPI, rPJ, g1, g2, g3, g4, g5, g6, g7, g8, Nat.reduceEqDiff, Nat.reduceAdd, false_and, and_false, true_and, and_true, reduceIte, nZ0, nZ1, sτ8_6.1, sτ8_6.2, fun a k => (jτ8 a k).1, fun a k => (jτ8 a k).2]
            refine s_X16_within g (by refine Rg.sI g ?_ (by simp only [rgS]; first | with_reducible exact nZ_rng _ | with_reducible exact nB_rng _ | with_reducible exact wr_rng _ | with_reducible exact i32any _ | (first | omega | with_reducible assumption | (unfold rng; omega) | (unfold rng; (repeat' split) <;> omega) | grind)); refine Rg.sI g ?_ (by simp only [rgS]; first | with_reducible exact nZ_rng _ | with_reducible exact nB_rng _ | with_reducible exact wr_rng _ | with_reducible exact i32any _ | (first | omega | with_reducible assumption | (unfold rng; omega) | (unfold rng; (repeat' split) <;> omega) | grind)); exact rτ8) (fun r88 p5 => ?_)
            obtain ⟨p5, p5b⟩ := p5
            have p5w : r88 = 1 → 97 ≤ r86 ∧ r86 ≤ 122 := fun e => win (by (first | omega | with_reducible assumption | (unfold rng; omega) | (unfold rng; (repeat' split) <;> omega) | grind)) (p5b e)
            try simp only [forall_eq, rII, rIJ, rIP, rJJ, rJI, rJP, rPP, rPI, rPJ, g1, g2, g3, g4, g5, g6, g7, g8, Nat.reduceEqDiff, Nat.reduceAdd, false_and, and_false, true_and, and_true, reduceIte, nZ0, nZ1, sτ8_6.1, sτ8_6.2, fun a k => (jτ8 a k).1, fun a k => (jτ8 a k).2]
            split
            · rename_i hc95
              skip
              unfold w_X16_see_205
              try simp only [forall_eq, rII, rIJ, rIP, rJJ, rJI, rJP, rPP, rPI, rPJ, g1, g2, g3, g4, g5, g6, g7, g8, Nat.reduceEqDiff, Nat.reduceAdd, false_and, and_false, true_and, and_true, reduceIte, nZ0, nZ1, sτ8_6.1, sτ8_6.2, fun a k => (jτ8 a k).1, fun a k => (jτ8 a k).2]
              refine s_X16_within g (by refine Rg.sI g ?_ (by simp only [rgS]; first | with_reducible exact nZ_rng _ | with_reducible exact nB_rng _ | with_reducible exact wr_rng _ | with_reducible exact i32any _ | (first | omega | with_reducible assumption | (unfold rng; omega) | (unfold rng; (repeat' split) <;> omega) | grind)); refine Rg.sI g ?_ (by simp only [rgS]; first | with_reducible exact nZ_rng _ | with_reducible exact nB_rng _ | with_reducible exact wr_rng _ | with_reducible exact i32any _ | (first | omega | with_reducible assumption | (unfold rng; omega) | (unfold rng; (repeat' split) <;> omega) | grind)); exact rτ8) (fun r90 p6 => ?_)
              obtain ⟨p6, p6b⟩ := p6
              have p6w : r90 = 1 → 48 ≤ r86 ∧ r86 ≤ 57 := fun e => win (by (first | omega | with_reducible assumption | (unfold rng; omega) | (unfold rng; (repeat' split) <;> omega) | grind)) (p6b e)
              try simp only [forall_eq, rII, rIJ, rIP, rJJ, rJI, rJP, rPP, rPI, rPJ, g1, g2, g3, g4, g5, g6, g7, g8, Nat.reduceEqDiff, Nat.reduceAdd, false_and, and_false, true_and, and_true, reduceIte, nZ0, nZ1, sτ8_6.1, sτ8_6.2, fun a k => (jτ8 a k).1, fun a k => (jτ8 a k).2]
              split
              · rename_i hc216
                skip
                unfold w_X16_see_320
                try simp only [forall_eq, rII, rIJ, rIP, rJJ, rJI, rJP, rPP, rPI, rPJ, g1, g2, g3, g4, g5, g6, g7, g8, Nat.reduceEqDiff, Nat.reduceAdd, false_and, and_false, true_and, and_true, reduceIte, nZ0, nZ1, sτ8_6.1, sτ8_6.2, fun a k => (jτ8 a k).1, fun a k => (jτ8 a k).2]
                split
                · rename_i hc324
                  skip
                  unfold w_X16_see_355
                  try simp only [forall_eq, rII, rIJ, rIP, rJJ, rJI, rJP, rPP, rPI, rPJ, g1, g2, g3, g4, g5, g6, g7, g8, Nat.reduceEqDiff, Nat.reduceAdd, false_and, and_false, true_and, and_true, reduceIte, nZ0, nZ1, sτ8_6.1, sτ8_6.2, fun a k => (jτ8 a k).1, fun a k => (jτ8 a k).2]
                  refine s_X16_fail g (by refine Rg.sI g ?_ (by simp only [rgS]; first | with_reducible exact nZ_rng _ | with_reducible exact nB_rng _ | with_reducible exact wr_rng _ | with_reducible exact i32any _ | (first | omega | with_reducible assumption | (unfold rng; omega) | (unfold rng; (repeat' split) <;> omega) | grind)); refine Rg.sI g ?_ (by simp only [rgS]; first | with_reducible exact nZ_rng _ | with_reducible exact nB_rng _ | with_reducible exact wr_rng _ | with_reducible exact i32any _ | (first | omega | with_reducible assumption | (unfold rng; omega) | (unfold rng; (repeat' split) <;> omega) | grind)); exact rτ8) (by (try simp only [rII, rIJ, rIP, rJJ, rJI, rJP, rPP, rPI, rPJ, g1, g2, g3, g4, g5, g6, g7, g8, Nat.reduceEqDiff, Nat.reduceAdd, false_and, and_false, true_and, and_true, reduceIte, nZ0, nZ1, sτ8_6.1, sτ8_6.2, fun a k => (jτ8 a k).1, fun a k => (jτ8 a k).2]) <;> (first | omega | with_reducible assumption | (unfold rng; omega) | (unfold rng; (repeat' split) <;> omega) | grind)) (fun σ91 r92 rσ91 fc p7 => ?_)
                  have fσ91 : Fr ra jx rm [] [4, 5, 7, 8, 9, 10, 11, 12, 13] σ σ91 := Fr.tr (by refine Fr.sI g ?_ (by decide); refine Fr.sI g ?_ (by decide); exact fτ8) (Fr.mor (fc) (by decide) (by decide))
                  have sσ91_6 := fσ91.2.1 6 (by decide)
                  have jσ91 := fσ91.2.2.1
                  try simp only [forall_eq, rII, rIJ, rIP, rJJ, rJI, rJP, rPP, rPI, rPJ, g1, g2, g3, g4, g5, g6, g7, g8, Nat.reduceEqDiff, Nat.reduceAdd, false_and, and_false, true_and, and_true, reduceIte, nZ0, nZ1, sσ91_6.1, sσ91_6.2, fun a k => (jσ91 a k).1, fun a k => (jσ91 a k).2]
                  refine ⟨by first | assumption | simp, ?_⟩
                  refine hX _ _ ?_ ?_ ?_
                  · exact rσ91
                  · exact fσ91
                  · exact rfl
                · rename_i hc324
                  skip
                  unfold w_X16_see_327
                  try simp only [forall_eq, rII, rIJ, rIP, rJJ, rJI, rJP, rPP, rPI, rPJ, g1, g2, g3, g4, g5, g6, g7, g8, Nat.reduceEqDiff, Nat.reduceAdd, false_and, and_false, true_and, and_true, reduceIte, nZ0, nZ1, sτ8_6.1, sτ8_6.2, fun a k => (jτ8 a k).1, fun a k => (jτ8 a k).2]
                  intro r93 rgr93
                  unfold rng at rgr93
                  split
                  · rename_i hc334
                    skip
                    unfold w_X16_see_355
                    try simp only [forall_eq, rII, rIJ, rIP, rJJ, rJI, rJP, rPP, rPI, rPJ, g1, g2, g3, g4, g5, g6, g7, g8, Nat.reduceEqDiff, Nat.reduceAdd, false_and, and_false, true_and, and_true, reduceIte, nZ0, nZ1, sτ8_6.1, sτ8_6.2, fun a k => (jτ8 a k).1, fun a k => (jτ8 a k).2]
                    refine s_X16_fail g (by refine Rg.sI g ?_ (by simp only [rgS]; first | with_reducible exact nZ_rng _ | with_reducible exact nB_rng _ | with_reducible exact wr_rng _ | with_reducible exact i32any _ | (first | omega | with_reducible assumption | (unfold rng; omega) | (unfold rng; (repeat' split) <;> omega) | grind)); refine Rg.sI g ?_ (by simp only [rgS]; first | with_reducible exact nZ_rng _ | with_reducible exact nB_rng _ | with_reducible exact wr_rng _ | with_reducible exact i32any _ | (first | omega | with_reducible assumption | (unfold rng; omega) | (unfold rng; (repeat' split) <;> omega) | grind)); exact rτ8) (by (try simp only [rII, rIJ, rIP, rJJ, rJI, rJP, rPP, rPI, rPJ, g1, g2, g3, g4, g5, g6, g7, g8, Nat.reduceEqDiff, Nat.reduceAdd, false_and, and_false, true_and, and_true, reduceIte, nZ0, nZ1, sτ8_6.1, sτ8_6.2, fun a k => (jτ8 a k).1, fun a k => (jτ8 a k).2]) <;> (first | omega | with_reducible assumption | (unfold rng; omega) | (unfold rng; (repeat' split) <;> omega) | grind)) (fun σ94 r95 rσ94 fc p8 => ?_)
                    have fσ94 : Fr ra jx rm [] [4, 5, 7, 8, 9, 10, 11, 12, 13] σ σ94 := Fr.tr (by refine Fr.sI g ?_ (by decide); refine Fr.sI g ?_ (by decide); exact fτ8) (Fr.mor (fc) (by decide) (by decide))
                    have sσ94_6 := fσ94.2.1 6 (by decide)
                    have jσ94 := fσ94.2.2.1
                    try simp only [forall_eq, rII, rIJ, rIP, rJJ, rJI, rJP, rPP, rPI, rPJ, g1, g2, g3, g4, g5, g6, g7, g8, Nat.reduceEqDiff, Nat.reduceAdd, false_and, and_false, true_and, and_true, reduceIte, nZ0, nZ1, sσ94_6.1, sσ94_6.2, fun a k => (jσ94 a k).1, fun a k => (jσ94 a k).2]
                    refine ⟨by first | assumption | simp, ?_⟩
                    refine hX _ _ ?_ ?_ ?_
                    · exact rσ94
                    · exact fσ94
                    · exact rfl
                  · rename_i hc334
                    skip
                    unfold w_X16_see_337
                    try simp only [forall_eq, rII, rIJ, rIP, rJJ, rJI, rJP, rPP, rPI, rPJ, g1, g2, g3, g4, g5, g6, g7, g8, Nat.reduceEqDiff, Nat.reduceAdd, false_and, and_false, true_and, and_true, reduceIte, nZ0, nZ1, sτ8_6.1, sτ8_6.2, fun a k => (jτ8 a k).1, fun a k => (jτ8 a k).2]
                    refine ⟨by (first | omega | with_reducible assumption | (unfold rng; omega) | (unfold rng; (repeat' split) <;> omega) | grind), ?_⟩
                    unfold w_X16_see_361
                    try simp only [forall_eq, rII, rIJ, rIP, rJJ, rJI, rJP, rPP, rPI, rPJ, g1, g2, g3, g4, g5, g6, g7, g8, Nat.reduceEqDiff, Nat.reduceAdd, false_and, and_false, true_and, and_true, reduceIte, nZ0, nZ1, sτ8_6.1, sτ8_6.2, fun a k => (jτ8 a k).1, fun a k => (jτ8 a k).2]
                    refine hQ _ _ ?_ ?_ ?_
                    · refine Rg.sI g ?_ (by simp only [rgS]; first | with_reducible exact nZ_rng _ | with_reducible exact nB_rng _ | with_reducible exact wr_rng _ | with_reducible exact i32any _ | (first | omega | with_reducible assumption | (unfold rng; omega) | (unfold rng; (repeat' split) <;> omega) | grind)); refine Rg.sI g ?_ (by simp only [rgS]; first | with_reducible exact nZ_rng _ | with_reducible exact nB_rng _ | with_reducible exact wr_rng _ | with_reducible exact i32any _ | (first | omega | with_reducible assumption | (unfold rng; omega) | (unfold rng; (repeat' split) <;> omega) | grind)); refine Rg.sI g ?_ (by simp only [rgS]; first | with_reducible exact nZ_rng _ | with_reducible exact nB_rng _ | with_reducible exact wr_rng _ | with_reducible exact i32any _ | (first | omega | with_reducible assumption | (unfold rng; omega) | (unfold rng; (repeat' split) <;> omega) | grind)); refine Rg.sI g ?_ (by simp only [rgS]; first | with_reducible exact nZ_rng _ | with_reducible exact nB_rng _ | with_reducible exact wr_rng _ | with_reducible exact i32any _ | (first | omega | with_reducible assumption | (unfold rng; omega) | (unfold rng; (repeat' split) <;> omega) | grind)); exact rτ8
                    · refine Fr.sI g ?_ (by decide); refine Fr.sI g ?_ (by decide); refine Fr.sI g ?_ (by decide); refine Fr.sI g ?_ (by decide); exact fτ8
                    · (try simp only [rII, rIJ, rIP, rJJ, rJI, rJP, rPP, rPI, rPJ, g1, g2, g3, g4, g5, g6, g7, g8, Nat.reduceEqDiff, Nat.reduceAdd, false_and, and_false, true_and, and_true, reduceIte, nZ0, nZ1, sτ8_6.1, sτ8_6.2, fun a k => (jτ8 a k).1, fun a k => (jτ8 a k).2]) <;> (first | omega | with_reducible assumption | (unfold rng; omega) | (unfold rng; (repeat' split) <;> omega) | grind)
              · rename_i hc216
                skip
                unfold w_X16_see_219
                try simp only [forall_eq, rII, rIJ, rIP, rJJ, rJI, rJP, rPP, rPI, rPJ, g1, g2, g3, g4, g5, g6, g7, g8, Nat.reduceEqDiff, Nat.reduceAdd, false_and, and_false, true_and, and_true, reduceIte, nZ0, nZ1, sτ8_6.1, sτ8_6.2, fun a k => (jτ8 a k).1, fun a k => (jτ8 a k).2]
                have L231 : ∀ (fu231 : Nat) (τ231 : Sg) (v2 : Int), Rg ra jx rm τ231 → Fr ra jx rm [] [4, 5, 7, 8, 9, 10, 11, 12, 13] σ τ231 → (gI τ231 rm 7 ≤ gI σ rm 6 ∧ 0 ≤ v2 ∧ v2 ≤ gI τ231 rm 7 ∧ gI τ231 rm 8 = 1) → ((gI σ rm 6 - gI τ231 rm 7).toNat) < fu231 → wl_X16_see_231 ra jx rm Q X fu231 τ231 v2 := by
                  intro fu231
                  induction fu231 with
                  | zero => intro τ231 _ _ _ _ h9; omega
                  | succ fu231 ih231 =>
                    intro τ231 v2 rτ231 fτ231 hi231 hm231
                    unfold wl_X16_see_231
                    have sτ231_6 := fτ231.2.1 6 (by decide)
                    have jτ231 := fτ231.2.2.1
                    unfold w_X16_see_231
                    try simp only [forall_eq, rII, rIJ, rIP, rJJ, rJI, rJP, rPP, rPI, rPJ, g1, g2, g3, g4, g5, g6, g7, g8, Nat.reduceEqDiff, Nat.reduceAdd, false_and, and_false, true_and, and_true, reduceIte, nZ0, nZ1, sτ231_6.1, sτ231_6.2, fun a k => (jτ231 a k).1, fun a k => (jτ231 a k).2]
                    have q2316 := rσ.2.1 6; simp only [rgS] at q2316
                    have q2317 := rτ231.2.1 7; simp only [rgS] at q2317
                    have q9 := rτ231.2.1 7; simp only [rgS] at q9
                    split
                    · rename_i hc239
                      skip
                      unfold w_X16_see_305
                      try simp only [forall_eq, rII, rIJ, rIP, rJJ, rJI, rJP, rPP, rPI, rPJ, g1, g2, g3, g4, g5, g6, g7, g8, Nat.reduceEqDiff, Nat.reduceAdd, false_and, and_false, true_and, and_true, reduceIte, nZ0, nZ1, sτ231_6.1, sτ231_6.2, fun a k => (jτ231 a k).1, fun a k => (jτ231 a k).2]
                      split
                      · rename_i hc308
                        skip
                        unfold w_X16_see_317
                        try simp only [forall_eq, rII, rIJ, rIP, rJJ, rJI, rJP, rPP, rPI, rPJ, g1, g2, g3, g4, g5, g6, g7, g8, Nat.reduceEqDiff, Nat.reduceAdd, false_and, and_false, true_and, and_true, reduceIte, nZ0, nZ1, sτ231_6.1, sτ231_6.2, fun a k => (jτ231 a k).1, fun a k => (jτ231 a k).2]
                        unfold w_X16_see_361
                        try simp only [forall_eq, rII, rIJ, rIP, rJJ, rJI, rJP, rPP, rPI, rPJ, g1, g2, g3, g4, g5, g6, g7, g8, Nat.reduceEqDiff, Nat.reduceAdd, false_and, and_false, true_and, and_true, reduceIte, nZ0, nZ1, sτ231_6.1, sτ231_6.2, fun a k => (jτ231 a k).1, fun a k => (jτ231 a k).2]
                        refine hQ _ _ ?_ ?_ ?_
                        · exact rτ231
                        · exact fτ231
                        · (try simp only [rII, rIJ, rIP, rJJ, rJI, rJP, rPP, rPI, rPJ, g1, g2, g3, g4, g5, g6, g7, g8, Nat.reduceEqDiff, Nat.reduceAdd, false_and, and_false, true_and, and_true, reduceIte, nZ0, nZ1, sτ231_6.1, sτ231_6.2, fun a k => (jτ231 a k).1, fun a k => (jτ231 a k).2]) <;> (first | omega | with_reducible assumption | (unfold rng; omega) | (unfold rng; (repeat' split) <;> omega) | grind)
                      · rename_i hc308
                        skip
                        unfold w_X16_see_311
                        try simp only [forall_eq, rII, rIJ, rIP, rJJ, rJI, rJP, rPP, rPI, rPJ, g1, g2, g3, g4, g5, g6, g7, g8, Nat.reduceEqDiff, Nat.reduceAdd, false_and, and_false, true_and, and_true, reduceIte, nZ0, nZ1, sτ231_6.1, sτ231_6.2, fun a k => (jτ231 a k).1, fun a k => (jτ231 a k).2]
                        refine s_X16_fail g rτ231 (by (try simp only [rII, rIJ, rIP, rJJ, rJI, rJP, rPP, rPI, rPJ, g1, g2, g3, g4, g5, g6, g7, g8, Nat.reduceEqDiff, Nat.reduceAdd, false_and, and_false, true_and, and_true, reduceIte, nZ0, nZ1, sτ231_6.1, sτ231_6.2, fun a k => (jτ231 a k).1, fun a k => (jτ231 a k).2]) <;> (first | omega | with_reducible assumption | (unfold rng; omega) | (unfold rng; (repeat' split) <;> omega) | grind)) (fun σ100 r101 rσ100 fc p10 => ?_)
                        have fσ100 : Fr ra jx rm [] [4, 5, 7, 8, 9, 10, 11, 12, 13] σ σ100 := Fr.tr fτ231 (Fr.mor (fc) (by decide) (by decide))
                        have sσ100_6 := fσ100.2.1 6 (by decide)
                        have jσ100 := fσ100.2.2.1
                        try simp only [forall_eq, rII, rIJ, rIP, rJJ, rJI, rJP, rPP, rPI, rPJ, g1, g2, g3, g4, g5, g6, g7, g8, Nat.reduceEqDiff, Nat.reduceAdd, false_and, and_false, true_and, and_true, reduceIte, nZ0, nZ1, sσ100_6.1, sσ100_6.2, fun a k => (jσ100 a k).1, fun a k => (jσ100 a k).2]
                        refine ⟨by first | assumption | simp, ?_⟩
                        refine hX _ _ ?_ ?_ ?_
                        · exact rσ100
                        · exact fσ100
                        · exact rfl
                    · rename_i hc239
                      skip
                      unfold w_X16_see_242
                      try simp only [forall_eq, rII, rIJ, rIP, rJJ, rJI, rJP, rPP, rPI, rPJ, g1, g2, g3, g4, g5, g6, g7, g8, Nat.reduceEqDiff, Nat.reduceAdd, false_and, and_false, true_and, and_true, reduceIte, nZ0, nZ1, sτ231_6.1, sτ231_6.2, fun a k => (jτ231 a k).1, fun a k => (jτ231 a k).2]
                      refine s_X16_byteAt g rτ231 (by (try simp only [rII, rIJ, rIP, rJJ, rJI, rJP, rPP, rPI, rPJ, g1, g2, g3, g4, g5, g6, g7, g8, Nat.reduceEqDiff, Nat.reduceAdd, false_and, and_false, true_and, and_true, reduceIte, nZ0, nZ1, sτ231_6.1, sτ231_6.2, fun a k => (jτ231 a k).1, fun a k => (jτ231 a k).2]) <;> (first | omega | with_reducible assumption | (unfold rng; omega) | (unfold rng; (repeat' split) <;> omega) | grind)) (fun r103 p11 => ?_)
                      try simp only [forall_eq, rII, rIJ, rIP, rJJ, rJI, rJP, rPP, rPI, rPJ, g1, g2, g3, g4, g5, g6, g7, g8, Nat.reduceEqDiff, Nat.reduceAdd, false_and, and_false, true_and, and_true, reduceIte, nZ0, nZ1, sτ231_6.1, sτ231_6.2, fun a k => (jτ231 a k).1, fun a k => (jτ231 a k).2]
                      refine s_X16_within g rτ231 (fun r105 p12 => ?_)
                      obtain ⟨p12, p12b⟩ := p12
                      have p12w : r105 = 1 → 48 ≤ r103 ∧ r103 ≤ 57 := fun e => win (by (first | omega | with_reducible assumption | (unfold rng; omega) | (unfold rng; (repeat' split) <;> omega) | grind)) (p12b e)
                      try simp only [forall_eq, rII, rIJ, rIP, rJJ, rJI, rJP, rPP, rPI, rPJ, g1, g2, g3, g4, g5, g6, g7, g8, Nat.reduceEqDiff, Nat.reduceAdd, false_and, and_false, true_and, and_true, reduceIte, nZ0, nZ1, sτ231_6.1, sτ231_6.2, fun a k => (jτ231 a k).1, fun a k => (jτ231 a k).2]
                      split
                      · rename_i hc260
                        skip
                        unfold w_X16_see_305
                        try simp only [forall_eq, rII, rIJ, rIP, rJJ, rJI, rJP, rPP, rPI, rPJ, g1, g2, g3, g4, g5, g6, g7, g8, Nat.reduceEqDiff, Nat.reduceAdd, false_and, and_false, true_and, and_true, reduceIte, nZ0, nZ1, sτ231_6.1, sτ231_6.2, fun a k => (jτ231 a k).1, fun a k => (jτ231 a k).2]
                        split
                        · rename_i hc308
                          skip
                          unfold w_X16_see_317
                          try simp only [forall_eq, rII, rIJ, rIP, rJJ, rJI, rJP, rPP, rPI, rPJ, g1, g2, g3, g4, g5, g6, g7, g8, Nat.reduceEqDiff, Nat.reduceAdd, false_and, and_false, true_and, and_true, reduceIte, nZ0, nZ1, sτ231_6.1, sτ231_6.2, fun a k => (jτ231 a k).1, fun a k => (jτ231 a k).2]
                          unfold w_X16_see_361
                          try simp only [forall_eq, rII, rIJ, rIP, rJJ, rJI, rJP, rPP, rPI, rPJ, g1, g2, g3, g4, g5, g6, g7, g8, Nat.reduceEqDiff, Nat.reduceAdd, false_and, and_false, true_and, and_true, reduceIte, nZ0, nZ1, sτ231_6.1, sτ231_6.2, fun a k => (jτ231 a k).1, fun a k => (jτ231 a k).2]
                          refine hQ _ _ ?_ ?_ ?_
                          · exact rτ231
                          · exact fτ231
                          · (try simp only [rII, rIJ, rIP, rJJ, rJI, rJP, rPP, rPI, rPJ, g1, g2, g3, g4, g5, g6, g7, g8, Nat.reduceEqDiff, Nat.reduceAdd, false_and, and_false, true_and, and_true, reduceIte, nZ0, nZ1, sτ231_6.1, sτ231_6.2, fun a k => (jτ231 a k).1, fun a k => (jτ231 a k).2]) <;> (first | omega | with_reducible assumption | (unfold rng; omega) | (unfold rng; (repeat' split) <;> omega) | grind)
                        · rename_i hc308
                          skip
                          unfold w_X16_see_311
                          try simp only [forall_eq, rII, rIJ, rIP, rJJ, rJI, rJP, rPP, rPI, rPJ, g1, g2, g3, g4, g5, g6, g7, g8, Nat.reduceEqDiff, Nat.reduceAdd, false_and, and_false, true_and, and_true, reduceIte, nZ0, nZ1, sτ231_6.1, sτ231_6.2, fun a k => (jτ231 a k).1, fun a k => (jτ231 a k).2]
                          refine s_X16_fail g rτ231 (by (try simp only [rII, rIJ, rIP, rJJ, rJI, rJP, rPP, rPI, rPJ, g1, g2, g3, g4, g5, g6, g7, g8, Nat.reduceEqDiff, Nat.reduceAdd, false_and, and_false, true_and, and_true, reduceIte, nZ0, nZ1, sτ231_6.1, sτ231_6.2, fun a k => (jτ231 a k).1, fun a k => (jτ231 a k).2]) <;> (first | omega | with_reducible assumption | (unfold rng; omega) | (unfold rng; (repeat' split) <;> omega) | grind)) (fun σ106 r107 rσ106 fc p13 => ?_)
                          have fσ106 : Fr ra jx rm [] [4, 5, 7, 8, 9, 10, 11, 12, 13] σ σ106 := Fr.tr fτ231 (Fr.mor (fc) (by decide) (by decide))
                          have sσ106_6 := fσ106.2.1 6 (by decide)
                          have jσ106 := fσ106.2.2.1
                          try simp only [forall_eq, rII, rIJ, rIP, rJJ, rJI, rJP, rPP, rPI, rPJ, g1, g2, g3, g4, g5, g6, g7, g8, Nat.reduceEqDiff, Nat.reduceAdd, false_and, and_false, true_and, and_true, reduceIte, nZ0, nZ1, sσ106_6.1, sσ106_6.2, fun a k => (jσ106 a k).1, fun a k => (jσ106 a k).2]
                          refine ⟨by first | assumption | simp, ?_⟩
                          refine hX _ _ ?_ ?_ ?_
                          · exact rσ106
                          · exact fσ106
                          · exact rfl
                      · rename_i hc260
                        skip
                        unfold w_X16_see_263
                        try simp only [forall_eq, rII, rIJ, rIP, rJJ, rJI, rJP, rPP, rPI, rPJ, g1, g2, g3, g4, g5, g6, g7, g8, Nat.reduceEqDiff, Nat.reduceAdd, false_and, and_false, true_and, and_true, reduceIte, nZ0, nZ1, sτ231_6.1, sτ231_6.2, fun a k => (jτ231 a k).1, fun a k => (jτ231 a k).2]
                        refine s_X16_byteAt g rτ231 (by (try simp only [rII, rIJ, rIP, rJJ, rJI, rJP, rPP, rPI, rPJ, g1, g2, g3, g4, g5, g6, g7, g8, Nat.reduceEqDiff, Nat.reduceAdd, false_and, and_false, true_and, and_true, reduceIte, nZ0, nZ1, sτ231_6.1, sτ231_6.2, fun a k => (jτ231 a k).1, fun a k => (jτ231 a k).2]) <;> (first | omega | with_reducible assumption | (unfold rng; omega) | (unfold rng; (repeat' split) <;> omega) | grind)) (fun r109 p14 => ?_)
                        try simp only [forall_eq, rII, rIJ, rIP, rJJ, rJI, rJP, rPP, rPI, rPJ, g1, g2, g3, g4, g5, g6, g7, g8, Nat.reduceEqDiff, Nat.reduceAdd, false_and, and_false, true_and, and_true, reduceIte, nZ0, nZ1, sτ231_6.1, sτ231_6.2, fun a k => (jτ231 a k).1, fun a k => (jτ231 a k).2]
                        refine ⟨by (first | omega | with_reducible assumption | (unfold rng; omega) | (unfold rng; (repeat' split) <;> omega) | grind), ?_⟩
                        refine ⟨by (first | omega | with_reducible assumption | (unfold rng; omega) | (unfold rng; (repeat' split) <;> omega) | grind), ?_⟩
                        refine ih231 _ _ ?_ ?_ ?_ ?_
                        · refine Rg.sI g ?_ (by simp only [rgS]; first | with_reducible exact nZ_rng _ | with_reducible exact nB_rng _ | with_reducible exact wr_rng _ | with_reducible exact i32any _ | (first | omega | with_reducible assumption | (unfold rng; omega) | (unfold rng; (repeat' split) <;> omega) | grind)); refine Rg.sJ g ?_; exact rτ231
                        · refine Fr.sI g ?_ (by decide); refine Fr.sJ g ?_ (by decide); exact fτ231
                        · (try simp only [rII, rIJ, rIP, rJJ, rJI, rJP, rPP, rPI, rPJ, g1, g2, g3, g4, g5, g6, g7, g8, Nat.reduceEqDiff, Nat.reduceAdd, false_and, and_false, true_and, and_true, reduceIte, nZ0, nZ1, sτ231_6.1, sτ231_6.2, fun a k => (jτ231 a k).1, fun a k => (jτ231 a k).2]) <;> (first | omega | with_reducible assumption | (unfold rng; omega) | (unfold rng; (repeat' split) <;> omega) | grind)
                        · (try simp only [rII, rIJ, rIP, rJJ, rJI, rJP, rPP, rPI, rPJ, g1, g2, g3, g4, g5, g6, g7, g8, Nat.reduceEqDiff, Nat.reduceAdd, false_and, and_false, true_and, and_true, reduceIte, nZ0, nZ1, sτ231_6.1, sτ231_6.2, fun a k => (jτ231 a k).1, fun a k => (jτ231 a k).2]) <;> (first | omega | with_reducible assumption | (unfold rng; omega) | (unfold rng; (repeat' split) <;> omega) | grind)
                refine ⟨_, L231 _ _ _ ?_ ?_ ?_ (Nat.lt_succ_self _)⟩
                · refine Rg.sJ g ?_; refine Rg.sI g ?_ (by simp only [rgS]; first | with_reducible exact nZ_rng _ | with_reducible exact nB_rng _ | with_reducible exact wr_rng _ | with_reducible exact i32any _ | (first | omega | with_reducible assumption | (unfold rng; omega) | (unfold rng; (repeat' split) <;> omega) | grind)); refine Rg.sI g ?_ (by simp only [rgS]; first | with_reducible exact nZ_rng _ | with_reducible exact nB_rng _ | with_reducible exact wr_rng _ | with_reducible exact i32any _ | (first | omega | with_reducible assumption | (unfold rng; omega) | (unfold rng; (repeat' split) <;> omega) | grind)); refine Rg.sI g ?_ (by simp only [rgS]; first | with_reducible exact nZ_rng _ | with_reducible exact nB_rng _ | with_reducible exact wr_rng _ | with_reducible exact i32any _ | (first | omega | with_reducible assumption | (unfold rng; omega) | (unfold rng; (repeat' split) <;> omega) | grind)); exact rτ8
                · refine Fr.sJ g ?_ (by decide); refine Fr.sI g ?_ (by decide); refine Fr.sI g ?_ (by decide); refine Fr.sI g ?_ (by decide); exact fτ8
                · (try simp only [rII, rIJ, rIP, rJJ, rJI, rJP, rPP, rPI, rPJ, g1, g2, g3, g4, g5, g6, g7, g8, Nat.reduceEqDiff, Nat.reduceAdd, false_and, and_false, true_and, and_true, reduceIte, nZ0, nZ1, sτ8_6.1, sτ8_6.2, fun a k => (jτ8 a k).1, fun a k => (jτ8 a k).2]) <;> (first | omega | with_reducible assumption | (unfold rng; omega) | (unfold rng; (repeat' split) <;> omega) | grind)
            · rename_i hc95
              skip
              unfold w_X16_see_98
              try simp only [forall_eq, rII, rIJ, rIP, rJJ, rJI, rJP, rPP, rPI, rPJ, g1, g2, g3, g4, g5, g6, g7, g8, Nat.reduceEqDiff, Nat.reduceAdd, false_and, and_false, true_and, and_true, reduceIte, nZ0, nZ1, sτ8_6.1, sτ8_6.2, fun a k => (jτ8 a k).1, fun a k => (jτ8 a k).2]
              have L113 : ∀ (fu113 : Nat) (τ113 : Sg), Rg ra jx rm τ113 → Fr ra jx rm [] [4, 5, 7, 8, 9, 10, 11, 12, 13] σ τ113 → (gI τ113 rm 7 ≤ gI σ rm 6 ∧ 0 ≤ gI τ113 rm 12 ∧ gI τ113 rm 12 ≤ gI τ113 rm 7 ∧ gI τ113 rm 8 = 1) → ((gI σ rm 6 - gI τ113 rm 7).toNat) < fu113 → wl_X16_see_113 ra jx rm Q X fu113 τ113 := by
                intro fu113
                induction fu113 with
                | zero => intro τ113 _ _ _ h9; omega
                | succ fu113 ih113 =>
                  intro τ113 rτ113 fτ113 hi113 hm113
                  unfold wl_X16_see_113
                  have sτ113_6 := fτ113.2.1 6 (by decide)
                  have jτ113 := fτ113.2.2.1
                  unfold w_X16_see_113
                  try simp only [forall_eq, rII, rIJ, rIP, rJJ, rJI, rJP, rPP, rPI, rPJ, g1, g2, g3, g4, g5, g6, g7, g8, Nat.reduceEqDiff, Nat.reduceAdd, false_and, and_false, true_and, and_true, reduceIte, nZ0, nZ1, sτ113_6.1, sτ113_6.2, fun a k => (jτ113 a k).1, fun a k => (jτ113 a k).2]
                  have q1136 := rσ.2.1 6; simp only [rgS] at q1136
                  have q1137 := rτ113.2.1 7; simp only [rgS] at q1137
                  have q15 := rτ113.2.1 7; simp only [rgS] at q15
                  split
                  · rename_i hc121
                    skip
                    unfold w_X16_see_361
                    try simp only [forall_eq, rII, rIJ, rIP, rJJ, rJI, rJP, rPP, rPI, rPJ, g1, g2, g3, g4, g5, g6, g7, g8, Nat.reduceEqDiff, Nat.reduceAdd, false_and, and_false, true_and, and_true, reduceIte, nZ0, nZ1, sτ113_6.1, sτ113_6.2, fun a k => (jτ113 a k).1, fun a k => (jτ113 a k).2]
                    refine hQ _ _ ?_ ?_ ?_
                    · exact rτ113
                    · exact fτ113
                    · (try simp only [rII, rIJ, rIP, rJJ, rJI, rJP, rPP, rPI, rPJ, g1, g2, g3, g4, g5, g6, g7, g8, Nat.reduceEqDiff, Nat.reduceAdd, false_and, and_false, true_and, and_true, reduceIte, nZ0, nZ1, sτ113_6.1, sτ113_6.2, fun a k => (jτ113 a k).1, fun a k => (jτ113 a k).2]) <;> (first | omega | with_reducible assumption | (unfold rng; omega) | (unfold rng; (repeat' split) <;> omega) | grind)
                  · rename_i hc121
                    skip
                    unfold w_X16_see_124
                    try simp only [forall_eq, rII, rIJ, rIP, rJJ, rJI, rJP, rPP, rPI, rPJ, g1, g2, g3, g4, g5, g6, g7, g8, Nat.reduceEqDiff, Nat.reduceAdd, false_and, and_false, true_and, and_true, reduceIte, nZ0, nZ1, sτ113_6.1, sτ113_6.2, fun a k => (jτ113 a k).1, fun a k => (jτ113 a k).2]
                    refine s_X16_byteAt g rτ113 (by (try simp only [rII, rIJ, rIP, rJJ, rJI, rJP, rPP, rPI, rPJ, g1, g2, g3, g4, g5, g6, g7, g8, Nat.reduceEqDiff, Nat.reduceAdd, false_and, and_false, true_and, and_true, reduceIte, nZ0, nZ1, sτ113_6.1, sτ113_6.2, fun a k => (jτ113 a k).1, fun a k => (jτ113 a k).2]) <;> (first | omega | with_reducible assumption | (unfold rng; omega) | (unfold rng; (repeat' split) <;> omega) | grind)) (fun r116 p16 => ?_)
                    try simp only [forall_eq, rII, rIJ, rIP, rJJ, rJI, rJP, rPP, rPI, rPJ, g1, g2, g3, g4, g5, g6, g7, g8, Nat.reduceEqDiff, Nat.reduceAdd, false_and, and_false, true_and, and_true, reduceIte, nZ0, nZ1, sτ113_6.1, sτ113_6.2, fun a k => (jτ113 a k).1, fun a k => (jτ113 a k).2]
                    refine s_X16_within g rτ113 (fun r118 p17 => ?_)
                    obtain ⟨p17, p17b⟩ := p17
                    have p17w : r118 = 1 → 97 ≤ r116 ∧ r116 ≤ 122 := fun e => win (by (first | omega | with_reducible assumption | (unfold rng; omega) | (unfold rng; (repeat' split) <;> omega) | grind)) (p17b e)
                    try simp only [forall_eq, rII, rIJ, rIP, rJJ, rJI, rJP, rPP, rPI, rPJ, g1, g2, g3, g4, g5, g6, g7, g8, Nat.reduceEqDiff, Nat.reduceAdd, false_and, and_false, true_and, and_true, reduceIte, nZ0, nZ1, sτ113_6.1, sτ113_6.2, fun a k => (jτ113 a k).1, fun a k => (jτ113 a k).2]
                    split
                    · rename_i hc142
                      skip
                      unfold w_X16_see_361
                      try simp only [forall_eq, rII, rIJ, rIP, rJJ, rJI, rJP, rPP, rPI, rPJ, g1, g2, g3, g4, g5, g6, g7, g8, Nat.reduceEqDiff, Nat.reduceAdd, false_and, and_false, true_and, and_true, reduceIte, nZ0, nZ1, sτ113_6.1, sτ113_6.2, fun a k => (jτ113 a k).1, fun a k => (jτ113 a k).2]
                      refine hQ _ _ ?_ ?_ ?_
                      · exact rτ113
                      · exact fτ113
                      · (try simp only [rII, rIJ, rIP, rJJ, rJI, rJP, rPP, rPI, rPJ, g1, g2, g3, g4, g5, g6, g7, g8, Nat.reduceEqDiff, Nat.reduceAdd, false_and, and_false, true_and, and_true, reduceIte, nZ0, nZ1, sτ113_6.1, sτ113_6.2, fun a k => (jτ113 a k).1, fun a k => (jτ113 a k).2]) <;> (first | omega | with_reducible assumption | (unfold rng; omega) | (unfold rng; (repeat' split) <;> omega) | grind)
                    · rename_i hc142
                      skip
                      unfold w_X16_see_145
                      try simp only [forall_eq, rII, rIJ, rIP, rJJ, rJI, rJP, rPP, rPI, rPJ, g1, g2, g3, g4, g5, g6, g7, g8, Nat.reduceEqDiff, Nat.reduceAdd, false_and, and_false, true_and, and_true, reduceIte, nZ0, nZ1, sτ113_6.1, sτ113_6.2, fun a k => (jτ113 a k).1, fun a k => (jτ113 a k).2]
                      have q18 := rτ113.2.1 12; simp only [rgS] at q18
                      split
                      · rename_i hc152
                        skip
                        unfold w_X16_see_175
                        try simp only [forall_eq, rII, rIJ, rIP, rJJ, rJI, rJP, rPP, rPI, rPJ, g1, g2, g3, g4, g5, g6, g7, g8, Nat.reduceEqDiff, Nat.reduceAdd, false_and, and_false, true_and, and_true, reduceIte, nZ0, nZ1, sτ113_6.1, sτ113_6.2, fun a k => (jτ113 a k).1, fun a k => (jτ113 a k).2]
                        unfold w_X16_see_179
                        try simp only [forall_eq, rII, rIJ, rIP, rJJ, rJI, rJP, rPP, rPI, rPJ, g1, g2, g3, g4, g5, g6, g7, g8, Nat.reduceEqDiff, Nat.reduceAdd, false_and, and_false, true_and, and_true, reduceIte, nZ0, nZ1, sτ113_6.1, sτ113_6.2, fun a k => (jτ113 a k).1, fun a k => (jτ113 a k).2]
                        refine ⟨by (first | omega | with_reducible assumption | (unfold rng; omega) | (unfold rng; (repeat' split) <;> omega) | grind), ?_⟩
                        refine ⟨by (first | omega | with_reducible assumption | (unfold rng; omega) | (unfold rng; (repeat' split) <;> omega) | grind), ?_⟩
                        refine ih113 _ ?_ ?_ ?_ ?_
                        · refine Rg.sI g ?_ (by simp only [rgS]; first | with_reducible exact nZ_rng _ | with_reducible exact nB_rng _ | with_reducible exact wr_rng _ | with_reducible exact i32any _ | (first | omega | with_reducible assumption | (unfold rng; omega) | (unfold rng; (repeat' split) <;> omega) | grind)); refine Rg.sI g ?_ (by simp only [rgS]; first | with_reducible exact nZ_rng _ | with_reducible exact nB_rng _ | with_reducible exact wr_rng _ | with_reducible exact i32any _ | (first | omega | with_reducible assumption | (unfold rng; omega) | (unfold rng; (repeat' split) <;> omega) | grind)); refine Rg.sJ g ?_; exact rτ113
                        · refine Fr.sI g ?_ (by decide); refine Fr.sI g ?_ (by decide); refine Fr.sJ g ?_ (by decide); exact fτ113
                        · (try simp only [rII, rIJ, rIP, rJJ, rJI, rJP, rPP, rPI, rPJ, g1, g2, g3, g4, g5, g6, g7, g8, Nat.reduceEqDiff, Nat.reduceAdd, false_and, and_false, true_and, and_true, reduceIte, nZ0, nZ1, sτ113_6.1, sτ113_6.2, fun a k => (jτ113 a k).1, fun a k => (jτ113 a k).2]) <;> (first | omega | with_reducible assumption | (unfold rng; omega) | (unfold rng; (repeat' split) <;> omega) | grind)
                        · (try simp only [rII, rIJ, rIP, rJJ, rJI, rJP, rPP, rPI, rPJ, g1, g2, g3, g4, g5, g6, g7, g8, Nat.reduceEqDiff, Nat.reduceAdd, false_and, and_false, true_and, and_true, reduceIte, nZ0, nZ1, sτ113_6.1, sτ113_6.2, fun a k => (jτ113 a k).1, fun a k => (jτ113 a k).2]) <;> (first | omega | with_reducible assumption | (unfold rng; omega) | (unfold rng; (repeat' split) <;> omega) | grind)
                      · rename_i hc152
                        skip
                        unfold w_X16_see_155
                        try simp only [forall_eq, rII, rIJ, rIP, rJJ, rJI, rJP, rPP, rPI, rPJ, g1, g2, g3, g4, g5, g6, g7, g8, Nat.reduceEqDiff, Nat.reduceAdd, false_and, and_false, true_and, and_true, reduceIte, nZ0, nZ1, sτ113_6.1, sτ113_6.2, fun a k => (jτ113 a k).1, fun a k => (jτ113 a k).2]
                        refine s_X16_byteAt g rτ113 (by (try simp only [rII, rIJ, rIP, rJJ, rJI, rJP, rPP, rPI, rPJ, g1, g2, g3, g4, g5, g6, g7, g8, Nat.reduceEqDiff, Nat.reduceAdd, false_and, and_false, true_and, and_true, reduceIte, nZ0, nZ1, sτ113_6.1, sτ113_6.2, fun a k => (jτ113 a k).1, fun a k => (jτ113 a k).2]) <;> (first | omega | with_reducible assumption | (unfold rng; omega) | (unfold rng; (repeat' split) <;> omega) | grind)) (fun r123 p19 => ?_)
                        try simp only [forall_eq, rII, rIJ, rIP, rJJ, rJI, rJP, rPP, rPI, rPJ, g1, g2, g3, g4, g5, g6, g7, g8, Nat.reduceEqDiff, Nat.reduceAdd, false_and, and_false, true_and, and_true, reduceIte, nZ0, nZ1, sτ113_6.1, sτ113_6.2, fun a k => (jτ113 a k).1, fun a k => (jτ113 a k).2]
                        unfold w_X16_see_179
                        try simp only [forall_eq, rII, rIJ, rIP, rJJ, rJI, rJP, rPP, rPI, rPJ, g1, g2, g3, g4, g5, g6, g7, g8, Nat.reduceEqDiff, Nat.reduceAdd, false_and, and_false, true_and, and_true, reduceIte, nZ0, nZ1, sτ113_6.1, sτ113_6.2, fun a k => (jτ113 a k).1, fun a k => (jτ113 a k).2]
                        refine ⟨by (first | omega | with_reducible assumption | (unfold rng; omega) | (unfold rng; (repeat' split) <;> omega) | grind), ?_⟩
                        refine ⟨by (first | omega | with_reducible assumption | (unfold rng; omega) | (unfold rng; (repeat' split) <;> omega) | grind), ?_⟩
                        refine ih113 _ ?_ ?_ ?_ ?_
                        · refine Rg.sI g ?_ (by simp only [rgS]; first | with_reducible exact nZ_rng _ | with_reducible exact nB_rng _ | with_reducible exact wr_rng _ | with_reducible exact i32any _ | (first | omega | with_reducible assumption | (unfold rng; omega) | (unfold rng; (repeat' split) <;> omega) | grind)); refine Rg.sI g ?_ (by simp only [rgS]; first | with_reducible exact nZ_rng _ | with_reducible exact nB_rng _ | with_reducible exact wr_rng _ | with_reducible exact i32any _ | (first | omega | with_reducible assumption | (unfold rng; omega) | (unfold rng; (repeat' split) <;> omega) | grind)); refine Rg.sJ g ?_; exact rτ113
                        · refine Fr.sI g ?_ (by decide); refine Fr.sI g ?_ (by decide); refine Fr.sJ g ?_ (by decide); exact fτ113
                        · (try simp only [rII, rIJ, rIP, rJJ, rJI, rJP, rPP, rPI, rPJ, g1, g2, g3, g4, g5, g6, g7, g8, Nat.reduceEqDiff, Nat.reduceAdd, false_and, and_false, true_and, and_true, reduceIte, nZ0, nZ1, sτ113_6.1, sτ113_6.2, fun a k => (jτ113 a k).1, fun a k => (jτ113 a k).2]) <;> (first | omega | with_reducible assumption | (unfold rng; omega) | (unfold rng; (repeat' split) <;> omega) | grind)
                        · (try simp only [rII, rIJ, rIP, rJJ, rJI, rJP, rPP, rPI, rPJ, g1, g2, g3, g4, g5, g6, g7, g8, Nat.reduceEqDiff, Nat.reduceAdd, false_and, and_false, true_and, and_true, reduceIte, nZ0, nZ1, sτ113_6.1, sτ113_6.2, fun a k => (jτ113 a k).1, fun a k => (jτ113 a k).2]) <;> (first | omega | with_reducible assumption | (unfold rng; omega) | (unfold rng; (repeat' split) <;> omega) | grind)
              refine ⟨_, L113 _ _ ?_ ?_ ?_ (Nat.lt_succ_self _)⟩
              · refine Rg.sI g ?_ (by simp only [rgS]; first | with_reducible exact nZ_rng _ | with_reducible exact nB_rng _ | with_reducible exact wr_rng _ | with_reducible exact i32any _ | (first | omega | with_reducible assumption | (unfold rng; omega) | (unfold rng; (repeat' split) <;> omega) | grind)); refine Rg.sJ g ?_; refine Rg.sI g ?_ (by simp only [rgS]; first | with_reducible exact nZ_rng _ | with_reducible exact nB_rng _ | with_reducible exact wr_rng _ | with_reducible exact i32any _ | (first | omega | with_reducible assumption | (unfold rng; omega) | (unfold rng; (repeat' split) <;> omega) | grind)); refine Rg.sI g ?_ (by simp only [rgS]; first | with_reducible exact nZ_rng _ | with_reducible exact nB_rng _ | with_reducible exact wr_rng _ | with_reducible exact i32any _ | (first | omega | with_reducible assumption | (unfold rng; omega) | (unfold rng; (repeat' split) <;> omega) | grind)); refine Rg.sI g ?_ (by simp only [rgS]; first | with_reducible exact nZ_rng _ | with_reducible exact nB_rng _ | with_reducible exact wr_rng _ | with_reducible exact i32any _ | (first | omega | with_reducible assumption | (unfold rng; omega) | (unfold rng; (repeat' split) <;> omega) | grind)); exact rτ8
              · refine Fr.sI g ?_ (by decide); refine Fr.sJ g ?_ (by decide); refine Fr.sI g ?_ (by decide); refine Fr.sI g ?_ (by decide); refine Fr.sI g ?_ (by decide); exact fτ8
              · (try simp only [rII, rIJ, rIP, rJJ, rJI, rJP, rPP, rPI, rPJ, g1, g2, g3, g4, g5, g6, g7, g8, Nat.reduceEqDiff, Nat.reduceAdd, false_and, and_false, true_and, and_true, reduceIte, nZ0, nZ1, sτ8_6.1, sτ8_6.2, fun a k => (jτ8 a k).1, fun a k => (jτ8 a k).2]) <;> (first | omega | with_reducible assumption | (unfold rng; omega) | (unfold rng; (repeat' split) <;> omega) | grind)
          · rename_i hc66
            skip
            unfold w_X16_see_69
            try simp only [forall_eq, rII, rIJ, rIP, rJJ, rJI, rJP, rPP, rPI, rPJ, g1, g2, g3, g4, g5, g6, g7, g8, Nat.reduceEqDiff, Nat.reduceAdd, false_and, and_false, true_and, and_true, reduceIte, nZ0, nZ1, sτ8_6.1, sτ8_6.2, fun a k => (jτ8 a k).1, fun a k => (jτ8 a k).2]
            refine hQ _ _ ?_ ?_ ?_
            · refine Rg.sI g ?_ (by simp only [rgS]; first | with_reducible exact nZ_rng _ | with_reducible exact nB_rng _ | with_reducible exact wr_rng _ | with_reducible exact i32any _ | (first | omega | with_reducible assumption | (unfold rng; omega) | (unfold rng; (repeat' split) <;> omega) | grind)); refine Rg.sI g ?_ (by simp only [rgS]; first | with_reducible exact nZ_rng _ | with_reducible exact nB_rng _ | with_reducible exact wr_rng _ | with_reducible exact i32any _ | (first | omega | with_reducible assumption | (unfold rng; omega) | (unfold rng; (repeat' split) <;> omega) | grind)); refine Rg.sI g ?_ (by simp only [rgS]; first | with_reducible exact nZ_rng _ | with_reducible exact nB_rng _ | with_reducible exact wr_rng _ | with_reducible exact i32any _ | (first | omega | with_reducible assumption | (unfold rng; omega) | (unfold rng; (repeat' split) <;> omega) | grind)); exact rτ8
            · refine Fr.sI g ?_ (by decide); refine Fr.sI g ?_ (by decide); refine Fr.sI g ?_ (by decide); exact fτ8
            · (try simp only [rII, rIJ, rIP, rJJ, rJI, rJP, rPP, rPI, rPJ, g1, g2, g3, g4, g5, g6, g7, g8, Nat.reduceEqDiff, Nat.reduceAdd, false_and, and_false, true_and, and_true, reduceIte, nZ0, nZ1, sτ8_6.1, sτ8_6.2, fun a k => (jτ8 a k).1, fun a k => (jτ8 a k).2]) <;> (first | omega | with_reducible assumption | (unfold rng; omega) | (unfold rng; (repeat' split) <;> omega) | grind)
        · rename_i hc16
          skip
          unfold w_X16_see_19
          try simp only [forall_eq, rII, rIJ, rIP, rJJ, rJI, rJP, rPP, rPI, rPJ, g1, g2, g3, g4, g5, g6, g7, g8, Nat.reduceEqDiff, Nat.reduceAdd, false_and, and_false, true_and, and_true, reduceIte, nZ0, nZ1, sτ8_6.1, sτ8_6.2, fun a k => (jτ8 a k).1, fun a k => (jτ8 a k).2]
          refine s_X16_byteAt g rτ8 (by (try simp only [rII, rIJ, rIP, rJJ, rJI, rJP, rPP, rPI, rPJ, g1, g2, g3, g4, g5, g6, g7, g8, Nat.reduceEqDiff, Nat.reduceAdd, false_and, and_false, true_and, and_true, reduceIte, nZ0, nZ1, sτ8_6.1, sτ8_6.2, fun a k => (jτ8 a k).1, fun a k => (jτ8 a k).2]) <;> (first | omega | with_reducible assumption | (unfold rng; omega) | (unfold rng; (repeat' split) <;> omega) | grind)) (fun r129 p20 => ?_)
          try simp only [forall_eq, rII, rIJ, rIP, rJJ, rJI, rJP, rPP, rPI, rPJ, g1, g2, g3, g4, g5, g6, g7, g8, Nat.reduceEqDiff, Nat.reduceAdd, false_and, and_false, true_and, and_true, reduceIte, nZ0, nZ1, sτ8_6.1, sτ8_6.2, fun a k => (jτ8 a k).1, fun a k => (jτ8 a k).2]
          split
          · rename_i hc29
            skip
            unfold w_X16_see_45
            try simp only [forall_eq, rII, rIJ, rIP, rJJ, rJI, rJP, rPP, rPI, rPJ, g1, g2, g3, g4, g5, g6, g7, g8, Nat.reduceEqDiff, Nat.reduceAdd, false_and, and_false, true_and, and_true, reduceIte, nZ0, nZ1, sτ8_6.1, sτ8_6.2, fun a k => (jτ8 a k).1, fun a k => (jτ8 a k).2]
            split
            · rename_i hc66
              skip
              unfold w_X16_see_75
              try simp only [forall_eq, rII, rIJ, rIP, rJJ, rJI, rJP, rPP, rPI, rPJ, g1, g2, g3, g4, g5, g6, g7, g8, Nat.reduceEqDiff, Nat.reduceAdd, false_and, and_false, true_and, and_true, reduceIte, nZ0, nZ1, sτ8_6.1, sτ8_6.2, fun a k => (jτ8 a k).1, fun a k => (jτ8 a k).2]
              refine s_X16_byteAt g (by refine Rg.sI g ?_ (by simp only [rgS]; first | with_reducible exact nZ_rng _ | with_reducible exact nB_rng _ | with_reducible exact wr_rng _ | with_reducible exact i32any _ | (first | omega | with_reducible assumption | (unfold rng; omega) | (unfold rng; (repeat' split) <;> omega) | grind)); refine Rg.sI g ?_ (by simp only [rgS]; first | with_reducible exact nZ_rng _ | with_reducible exact nB_rng _ | with_reducible exact wr_rng _ | with_reducible exact i32any _ | (first | omega | with_reducible assumption | (unfold rng; omega) | (unfold rng; (repeat' split) <;> omega) | grind)); exact rτ8) (by (try simp only [rII, rIJ, rIP, rJJ, rJI, rJP, rPP, rPI, rPJ, g1, g2, g3, g4, g5, g6, g7, g8, Nat.reduceEqDiff, Nat.reduceAdd, false_and, and_false, true_and, and_true, reduceIte, nZ0, nZ1, sτ8_6.1, sτ8_6.2, fun a k => (jτ8 a k).1, fun a k => (jτ8 a k).2]) <;> (first | omega | with_reducible assumption | (unfold rng; omega) | (unfold rng; (repeat' split) <;> omega) | grind)) (fun r133 p21 => ?_)
              try simp only [forall_eq, rII, rIJ, rIP, rJJ, rJI, rJP, rPP, rPI, rPJ, g1, g2, g3, g4, g5, g6, g7, g8, Nat.reduceEqDiff, Nat.reduceAdd, false_and, and_false, true_and, and_true, reduceIte, nZ0, nZ1, sτ8_6.1, sτ8_6.2, fun a k => (jτ8 a k).1, fun a k => (jτ8 a k).2]
              refine s_X16_within g (by refine Rg.sI g ?_ (by simp only [rgS]; first | with_reducible exact nZ_rng _ | with_reducible exact nB_rng _ | with_reducible exact wr_rng _ | with_reducible exact i32any _ | (first | omega | with_reducible assumption | (unfold rng; omega) | (unfold rng; (repeat' split) <;> omega) | grind)); refine Rg.sI g ?_ (by simp only [rgS]; first | with_reducible exact nZ_rng _ | with_reducible exact nB_rng _ | with_reducible exact wr_rng _ | with_reducible exact i32any _ | (first | omega | with_reducible assumption | (unfold rng; omega) | (unfold rng; (repeat' split) <;> omega) | grind)); exact rτ8) (fun r135 p22 => ?_)
              obtain ⟨p22, p22b⟩ := p22
              have p22w : r135 = 1 → 97 ≤ r133 ∧ r133 ≤ 122 := fun e => win (by (first | omega | with_reducible assumption | (unfold rng; omega) | (unfold rng; (repeat' split) <;> omega) | grind)) (p22b e)
              try simp only [forall_eq, rII, rIJ, rIP, rJJ, rJI, rJP, rPP, rPI, rPJ, g1, g2, g3, g4, g5, g6, g7, g8, Nat.reduceEqDiff, Nat.reduceAdd, false_and, and_false, true_and, and_true, reduceIte, nZ0, nZ1, sτ8_6.1, sτ8_6.2, fun a k => (jτ8 a k).1, fun a k => (jτ8 a k).2]
              split
              · rename_i hc95
                skip
                unfold w_X16_see_205
                try simp only [forall_eq, rII, rIJ, rIP, rJJ, rJI, rJP, rPP, rPI, rPJ, g1, g2, g3, g4, g5, g6, g7, g8, Nat.reduceEqDiff, Nat.reduceAdd, false_and, and_false, true_and, and_true, reduceIte, nZ0, nZ1, sτ8_6.1, sτ8_6.2, fun a k => (jτ8 a k).1, fun a k => (jτ8 a k).2]
                refine s_X16_within g (by refine Rg.sI g ?_ (by simp only [rgS]; first | with_reducible exact nZ_rng _ | with_reducible exact nB_rng _ | with_reducible exact wr_rng _ | with_reducible exact i32any _ | (first | omega | with_reducible assumption | (unfold rng; omega) | (unfold rng; (repeat' split) <;> omega) | grind)); refine Rg.sI g ?_ (by simp only [rgS]; first | with_reducible exact nZ_rng _ | with_reducible exact nB_rng _ | with_reducible exact wr_rng _ | with_reducible exact i32any _ | (first | omega | with_reducible assumption | (unfold rng; omega) | (unfold rng; (repeat' split) <;> omega) | grind)); exact rτ8) (fun r137 p23 => ?_)
                obtain ⟨p23, p23b⟩ := p23
                have p23w : r137 = 1 → 48 ≤ r133 ∧ r133 ≤ 57 := fun e => win (by (first | omega | with_reducible assumption | (unfold rng; omega) | (unfold rng; (repeat' split) <;> omega) | grind)) (p23b e)
                try simp only [forall_eq, rII, rIJ, rIP, rJJ, rJI, rJP, rPP, rPI, rPJ, g1, g2, g3, g4, g5, g6, g7, g8, Nat.reduceEqDiff, Nat.reduceAdd, false_and, and_false, true_and, and_true, reduceIte, nZ0, nZ1, sτ8_6.1, sτ8_6.2, fun a k => (jτ8 a k).1, fun a k => (jτ8 a k).2]
                split
                · rename_i hc216
                  skip
                  unfold w_X16_see_320
                  try simp only [forall_eq, rII, rIJ, rIP, rJJ, rJI, rJP, rPP, rPI, rPJ, g1, g2, g3, g4, g5, g6, g7, g8, Nat.reduceEqDiff, Nat.reduceAdd, false_and, and_false, true_and, and_true, reduceIte, nZ0, nZ1, sτ8_6.1, sτ8_6.2, fun a k => (jτ8 a k).1, fun a k => (jτ8 a k).2]
                  split
                  · rename_i hc324
                    skip
                    unfold w_X16_see_355
                    try simp only [forall_eq, rII, rIJ, rIP, rJJ, rJI, rJP, rPP, rPI, rPJ, g1, g2, g3, g4, g5, g6, g7, g8, Nat.reduceEqDiff, Nat.reduceAdd, false_and, and_false, true_and, and_true, reduceIte, nZ0, nZ1, sτ8_6.1, sτ8_6.2, fun a k => (jτ8 a k).1, fun a k => (jτ8 a k).2]
                    refine s_X16_fail g (by refine Rg.sI g ?_ (by simp only [rgS]; first | with_reducible exact nZ_rng _ | with_reducible exact nB_rng _ | with_reducible exact wr_rng _ | with_reducible exact i32any _ | (first | omega | with_reducible assumption | (unfold rng; omega) | (unfold rng; (repeat' split) <;> omega) | grind)); refine Rg.sI g ?_ (by simp only [rgS]; first | with_reducible exact nZ_rng _ | with_reducible exact nB_rng _ | with_reducible exact wr_rng _ | with_reducible exact i32any _ | (first | omega | with_reducible assumption | (unfold rng; omega) | (unfold rng; (repeat' split) <;> omega) | grind)); exact rτ8) (by (try simp only [rII, rIJ, rIP, rJJ, rJI, rJP, rPP, rPI, rPJ, g1, g2, g3, g4, g5, g6, g7, g8, Nat.reduceEqDiff, Nat.reduceAdd, false_and, and_false, true_and, and_true, reduceIte, nZ0, nZ1, sτ8_6.1, sτ8_6.2, fun a k => (jτ8 a k).1, fun a k => (jτ8 a k).2]) <;> (first | omega | with_reducible assumption | (unfold rng; omega) | (unfold rng; (repeat' split) <;> omega) | grind)) (fun σ138 r139 rσ138 fc p24 => ?_)
                    have fσ138 : Fr ra jx rm [] [4, 5, 7, 8, 9, 10, 11, 12, 13] σ σ138 := Fr.tr (by refine Fr.sI g ?_ (by decide); refine Fr.sI g ?_ (by decide); exact fτ8) (Fr.mor (fc) (by decide) (by decide))
                    have sσ138_6 := fσ138.2.1 6 (by decide)
                    have jσ138 := fσ138.2.2.1
                    try simp only [forall_eq, rII, rIJ, rIP, rJJ, rJI, rJP, rPP, rPI, rPJ, g1, g2, g3, g4, g5, g6, g7, g8, Nat.reduceEqDiff, Nat.reduceAdd, false_and, and_false, true_and, and_true, reduceIte, nZ0, nZ1, sσ138_6.1, sσ138_6.2, fun a k => (jσ138 a k).1, fun a k => (jσ138 a k).2]
                    refine ⟨by first | assumption | simp, ?_⟩
                    refine hX _ _ ?_ ?_ ?_
                    · exact rσ138
                    · exact fσ138
                    · exact rfl
                  · rename_i hc324
                    skip
                    unfold w_X16_see_327
                    try simp only [forall_eq, rII, rIJ, rIP, rJJ, rJI, rJP, rPP, rPI, rPJ, g1, g2, g3, g4, g5, g6, g7, g8, Nat.reduceEqDiff, Nat.reduceAdd, false_and, and_false, true_and, and_true, reduceIte, nZ0, nZ1, sτ8_6.1, sτ8_6.2, fun a k => (jτ8 a k).1, fun a k => (jτ8 a k).2]
                    intro r140 rgr140
                    unfold rng at rgr140
                    split
                    · rename_i hc334
                      skip
                      unfold w_X16_see_355
                      try simp only [forall_eq, rII, rIJ, rIP, rJJ, rJI, rJP, rPP, rPI, rPJ, g1, g2, g3, g4, g5, g6, g7, g8, Nat.reduceEqDiff, Nat.reduceAdd, false_and, and_false, true_and, and_true, reduceIte, nZ0, nZ1, sτ8_6.1, sτ8_6.2, fun a k => (jτ8 a k).1, fun a k => (jτ8 a k).2]
                      refine s_X16_fail g (by refine Rg.sI g ?_ (by simp only [rgS]; first | with_reducible exact nZ_rng _ | with_reducible exact nB_rng _ | with_reducible exact wr_rng _ | with_reducible exact i32any _ | (first | omega | with_reducible assumption | (unfold rng; omega) | (unfold rng; (repeat' split) <;> omega) | grind)); refine Rg.sI g ?_ (by simp only [rgS]; first | with_reducible exact nZ_rng _ | with_reducible exact nB_rng _ | with_reducible exact wr_rng _ | with_reducible exact i32any _ | (first | omega | with_reducible assumption | (unfold rng; omega) | (unfold rng; (repeat' split) <;> omega) | grind)); exact rτ8) (by (try simp only [rII, rIJ, rIP, rJJ, rJI, rJP, rPP, rPI, rPJ, g1, g2, g3, g4, g5, g6, g7, g8, Nat.reduceEqDiff, Nat.reduceAdd, false_and, and_false, true_and, and_true, reduceIte, nZ0, nZ1, sτ8_6.1, sτ8_6.2, fun a k => (jτ8 a k).1, fun a k => (jτ8 a k).2]) <;> (first | omega | with_reducible assumption | (unfold rng; omega) | (unfold rng; (repeat' split) <;> omega) | grind)) (fun σ141 r142 rσ141 fc p25 => ?_)
                      have fσ141 : Fr ra jx rm [] [4, 5, 7, 8, 9, 10, 11, 12, 13] σ σ141 := Fr.tr (by refine Fr.sI g ?_ (by decide); refine Fr.sI g ?_ (by decide); exact fτ8) (Fr.mor (fc) (by decide) (by decide))
                      have sσ141_6 := fσ141.2.1 6 (by decide)
                      have jσ141 := fσ141.2.2.1
                      try simp only [forall_eq, rII, rIJ, rIP, rJJ, rJI, rJP, rPP, rPI, rPJ, g1, g2, g3, g4, g5, g6, g7, g8, Nat.reduceEqDiff, Nat.reduceAdd, false_and, and_false, true_and, and_true, reduceIte, nZ0, nZ1, sσ141_6.1, sσ141_6.2, fun a k => (jσ141 a k).1, fun a k => (jσ141 a k).2]
                      refine ⟨by first | assumption | simp, ?_⟩
                      refine hX _ _ ?_ ?_ ?_
                      · exact rσ141
                      · exact fσ141
                      · exact rfl
                    · rename_i hc334
                      skip
                      unfold w_X16_see_337
                      try simp only [forall_eq, rII, rIJ, rIP, rJJ, rJI, rJP, rPP, rPI, rPJ, g1, g2, g3, g4, g5, g6, g7, g8, Nat.reduceEqDiff, Nat.reduceAdd, false_and, and_false, true_and, and_true, reduceIte, nZ0, nZ1, sτ8_6.1, sτ8_6.2, fun a k => (jτ8 a k).1, fun a k => (jτ8 a k).2]
                      refine ⟨by (first | omega | with_reducible assumption | (unfold rng; omega) | (unfold rng; (repeat' split) <;> omega) | grind), ?_⟩
                      unfold w_X16_see_361
                      try simp only [forall_eq, rII, rIJ, rIP, rJJ, rJI, rJP, rPP, rPI, rPJ, g1, g2, g3, g4, g5, g6, g7, g8, Nat.reduceEqDiff, Nat.reduceAdd, false_and, and_false, true_and, and_true, reduceIte, nZ0, nZ1, sτ8_6.1, sτ8_6.2, fun a k => (jτ8 a k).1, fun a k => (jτ8 a k).2]
                      refine hQ _ _ ?_ ?_ ?_
                      · refine Rg.sI g ?_ (by simp only [rgS]; first | with_reducible exact nZ_rng _ | with_reducible exact nB_rng _ | with_reducible exact wr_rng _ | with_reducible exact i32any _ | (first | omega | with_reducible assumption | (unfold rng; omega) | (unfold rng; (repeat' split) <;> omega) | grind)); refine Rg.sI g ?_ (by simp only [rgS]; first | with_reducible exact nZ_rng _ | with_reducible exact nB_rng _ | with_reducible exact wr_rng _ | with_reducible exact i32any _ | (first | omega | with_reducible assumption | (unfold rng; omega) | (unfold rng; (repeat' split) <;> omega) | grind)); refine Rg.sI g ?_ (by simp only [rgS]; first | with_reducible exact nZ_rng _ | with_reducible exact nB_rng _ | with_reducible exact wr_rng _ | with_reducible exact i32any _ | (first | omega | with_reducible assumption | (unfold rng; omega) | (unfold rng; (repeat' split) <;> omega) | grind)); refine Rg.sI g ?_ (by simp only [rgS]; first | with_reducible exact nZ_rng _ | with_reducible exact nB_rng _ | with_reducible exact wr_rng _ | with_reducible exact i32any _ | (first | omega | with_reducible assumption | (unfold rng; omega) | (unfold rng; (repeat' split) <;> omega) | grind)); exact rτ8
                      · refine Fr.sI g ?_ (by decide); refine Fr.sI g ?_ (by decide); refine Fr.sI g ?_ (by decide); refine Fr.sI g ?_ (by decide); exact fτ8
                      · (try simp only [rII, rIJ, rIP, rJJ, rJI, rJP, rPP, rPI, rPJ, g1, g2, g3, g4, g5, g6, g7, g8, Nat.reduceEqDiff, Nat.reduceAdd, false_and, and_false, true_and, and_true, reduceIte, nZ0, nZ1, sτ8_6.1, sτ8_6.2, fun a k => (jτ8 a k).1, fun a k => (jτ8 a k).2]) <;> (first | omega | with_reducible assumption | (unfold rng; omega) | (unfold rng; (repeat' split) <;> omega) | grind)
                · rename_i hc216
                  skip
                  unfold w_X16_see_219
                  try simp only [forall_eq, rII, rIJ, rIP, rJJ, rJI, rJP, rPP, rPI, rPJ, g1, g2, g3, g4, g5, g6, g7, g8, Nat.reduceEqDiff, Nat.reduceAdd, false_and, and_false, true_and, and_true, reduceIte, nZ0, nZ1, sτ8_6.1, sτ8_6.2, fun a k => (jτ8 a k).1, fun a k => (jτ8 a k).2]
                  have L231 : ∀ (fu231 : Nat) (τ231 : Sg) (v2 : Int), Rg ra jx rm τ231 → Fr ra jx rm [] [4, 5, 7, 8, 9, 10, 11, 12, 13] σ τ231 → (gI τ231 rm 7 ≤ gI σ rm 6 ∧ 0 ≤ v2 ∧ v2 ≤ gI τ231 rm 7 ∧ gI τ231 rm 8 = 1) → ((gI σ rm 6 - gI τ231 rm 7).toNat) < fu231 → wl_X16_see_231 ra jx rm Q X fu231 τ231 v2 := by
                    intro fu231
                    induction fu231 with
                    | zero => intro τ231 _ _ _ _ h9; omega
                    | succ fu231 ih231 =>
                      intro τ231 v2 rτ231 fτ231 hi231 hm231
                      unfold wl_X16_see_231
                      have sτ231_6 := fτ231.2.1 6 (by decide)
                      have jτ231 := fτ231.2.2.1
                      unfold w_X16_see_231
                      try simp only [forall_eq, rII, rIJ, rIP, rJJ, rJI, rJP, rPP, rPI, rPJ, g1, g2, g3, g4, g5, g6, g7, g8, Nat.reduceEqDiff, Nat.reduceAdd, false_and, and_false, true_and, and_true, reduceIte, nZ0, nZ1, sτ231_6.1, sτ231_6.2, fun a k => (jτ231 a k).1, fun a k => (jτ231 a k).2]
                      have q2316 := rσ.2.1 6; simp only [rgS] at q2316
                      have q2317 := rτ231.2.1 7; simp only [rgS] at q2317
                      have q26 := rτ231.2.1 7; simp only [rgS] at q26
                      split
                      · rename_i hc239
                        skip
                        unfold w_X16_see_305
                        try simp only [forall_eq, rII, rIJ, rIP, rJJ, rJI, rJP, rPP, rPI, rPJ, g1, g2, g3, g4, g5, g6, g7, g8, Nat.reduceEqDiff, Nat.reduceAdd, false_and, and_false, true_and, and_true, reduceIte, nZ0, nZ1, sτ231_6.1, sτ231_6.2, fun a k => (jτ231 a k).1, fun a k => (jτ231 a k).2]
                        split
                        · rename_i hc308
                          skip
                          unfold w_X16_see_317
                          try simp only [forall_eq, rII, rIJ, rIP, rJJ, rJI, rJP, rPP, rPI, rPJ, g1, g2, g3, g4, g5, g6, g7, g8, Nat.reduceEqDiff, Nat.reduceAdd, false_and, and_false, true_and, and_true, reduceIte, nZ0, nZ1, sτ231_6.1, sτ231_6.2, fun a k => (jτ231 a k).1, fun a k => (jτ231 a k).2]
                          unfold w_X16_see_361
                          try simp only [forall_eq, rII, rIJ, rIP, rJJ, rJI, rJP, rPP, rPI, rPJ, g1, g2, g3, g4, g5, g6, g7, g8, Nat.reduceEqDiff, Nat.reduceAdd, false_and, and_false, true_and, and_true, reduceIte, nZ0, nZ1, sτ231_6.1, sτ231_6.2, fun a k => (jτ231 a k).1, fun a k => (jτ231 a k).2]
                          refine hQ _ _ ?_ ?_ ?_
                          · exact rτ231
                          · exact fτ231
                          · (try simp only [rII, rIJ, rIP, rJJ, rJI, rJP, rPP, rPI, rPJ, g1, g2, g3, g4, g5, g6, g7, g8, Nat.reduceEqDiff, Nat.reduceAdd, false_and, and_false, true_and, and_true, reduceIte, nZ0, nZ1, sτ231_6.1, sτ231_6.2, fun a k => (jτ231 a k).1, fun a k => (jτ231 a k).2]) <;> (first | omega | with_reducible assumption | (unfold rng; omega) | (unfold rng; (repeat' split) <;> omega) | grind)
                        · rename_i hc308
                          skip
                          unfold w_X16_see_311
                          try simp only [forall_eq, rII, rIJ, rIP, rJJ, rJI, rJP, rPP, rPI, rPJ, g1, g2, g3, g4, g5, g6, g7, g8, Nat.reduceEqDiff, Nat.reduceAdd, false_and, and_false, true_and, and_true, reduceIte, nZ0, nZ1, sτ231_6.1, sτ231_6.2, fun a k => (jτ231 a k).1, fun a k => (jτ231 a k).2]
                          refine s_X16_fail g rτ231 (by (try simp only [rII, rIJ, rIP, rJJ, rJI, rJP, rPP, rPI, rPJ, g1, g2, g3, g4, g5, g6, g7, g8, Nat.reduceEqDiff, Nat.reduceAdd, false_and, and_false, true_and, and_true, reduceIte, nZ0, nZ1, sτ231_6.1, sτ231_6.2, fun a k => (jτ231 a k).1, fun a k => (jτ231 a k).2]) <;> (first | omega | with_reducible assumption | (unfold rng; omega) | (unfold rng; (repeat' split) <;> omega) | grind)) (fun σ147 r148 rσ147 fc p27 => ?_)
                          have fσ147 : Fr ra jx rm [] [4, 5, 7, 8, 9, 10, 11, 12, 13] σ σ147 := Fr.tr fτ231 (Fr.mor (fc) (by decide) (by decide))
                          have sσ147_6 := fσ147.2.1 6 (by decide)
                          have jσ147 := fσ147.2.2.1
                          try simp only [forall_eq, rII, rIJ, rIP, rJJ, rJI, rJP, rPP, rPI, rPJ, g1, g2, g3, g4, g5, g6, g7, g8, Nat.reduceEqDiff, Nat.reduceAdd, false_and, and_false, true_and, and_true, reduceIte, nZ0, nZ1, sσ147_6.1, sσ147_6.2, fun a k => (jσ147 a k).1, fun a k => (jσ147 a k).2]
                          refine ⟨by first | assumption | simp, ?_⟩
                          refine hX _ _ ?_ ?_ ?_
                          · exact rσ147
                          · exact fσ147
                          · exact rfl
                      · rename_i hc239
                        skip
                        unfold w_X16_see_242
                        try simp only [forall_eq, rII, rIJ, rIP, rJJ, rJI, rJP, rPP, rPI, rPJ, g1, g2, g3, g4, g5, g6, g7, g8, Nat.reduceEqDiff, Nat.reduceAdd, false_and, and_false, true_and, and_true, reduceIte, nZ0, nZ1, sτ231_6.1, sτ231_6.2, fun a k => (jτ231 a k).1, fun a k => (jτ231 a k).2]
                        refine s_X16_byteAt g rτ231 (by (try simp only [rII, rIJ, rIP, rJJ, rJI, rJP, rPP, rPI, rPJ, g1, g2, g3, g4, g5, g6, g7, g8, Nat.reduceEqDiff, Nat.reduceAdd, false_and, and_false, true_and, and_true, reduceIte, nZ0, nZ1, sτ231_6.1, sτ231_6.2, fun a k => (jτ231 a k).1, fun a k => (jτ231 a k).2]) <;> (first | omega | with_reducible assumption | (unfold rng; omega) | (unfold rng; (repeat' split) <;> omega) | grind)) (fun r150 p28 => ?_)
                        try simp only [forall_eq, rII, rIJ, rIP, rJJ, rJI, rJP, rPP, rPI, rPJ, g1, g2, g3, g4, g5, g6, g7, g8, Nat.reduceEqDiff, Nat.reduceAdd, false_and, and_false, true_and, and_true, reduceIte, nZ0, nZ1, sτ231_6.1, sτ231_6.2, fun a k => (jτ231 a k).1, fun a k => (jτ231 a k).2]
                        refine s_X16_within g rτ231 (fun r152 p29 => ?_)
                        obtain ⟨p29, p29b⟩ := p29
                        have p29w : r152 = 1 → 48 ≤ r150 ∧ r150 ≤ 57 := fun e => win (by (first | omega | with_reducible assumption | (unfold rng; omega) | (unfold rng; (repeat' split) <;> omega) | grind)) (p29b e)
                        try simp only [forall_eq, rII, rIJ, rIP, rJJ, rJI, rJP, rPP, rPI, rPJ, g1, g2, g3, g4, g5, g6, g7, g8, Nat.reduceEqDiff, Nat.reduceAdd, false_and, and_false, true_and, and_true, reduceIte, nZ0, nZ1, sτ231_6.1, sτ231_6.2, fun a k => (jτ231 a k).1, fun a k => (jτ231 a k).2]
                        split
                        · rename_i hc260
                          skip
                          unfold w_X16_see_305
                          try simp only [forall_eq, rII, rIJ, rIP, rJJ, rJI, rJP, rPP, rPI, rPJ, g1, g2, g3, g4, g5, g6, g7, g8, Nat.reduceEqDiff, Nat.reduceAdd, false_and, and_false, true_and, and_true, reduceIte, nZ0, nZ1, sτ231_6.1, sτ231_6.2, fun a k => (jτ231 a k).1, fun a k => (jτ231 a k).2]
                          split
                          · rename_i hc308
                            skip
                            unfold w_X16_see_317
                            try simp only [forall_eq, rII, rIJ, rIP, rJJ, rJI, rJP, rPP, rPI, rPJ, g1, g2, g3, g4, g5, g6, g7, g8, Nat.reduceEqDiff, Nat.reduceAdd, false_and, and_false, true_and, and_true, reduceIte, nZ0, nZ1, sτ231_6.1, sτ231_6.2, fun a k => (jτ231 a k).1, fun a k => (jτ231 a k).2]
                            unfold w_X16_see_361
                            try simp only [forall_eq, rII, rIJ, rIP, rJJ, rJI, rJP, rPP, rPI, rPJ, g1, g2, g3, g4, g5, g6, g7, g8, Nat.reduceEqDiff, Nat.reduceAdd, false_and, and_false, true_and, and_true, reduceIte, nZ0, nZ1, sτ231_6.1, sτ231_6.2, fun a k => (jτ231 a k).1, fun a k => (jτ231 a k).2]
                            refine hQ _ _ ?_ ?_ ?_
                            · exact rτ231
                            · exact fτ231
                            · (try simp only [rII, rIJ, rIP, rJJ, rJI, rJP, rPP, rPI, rPJ, g1, g2, g3, g4, g5, g6, g7, g8, Nat.reduceEqDiff, Nat.reduceAdd, false_and, and_false, true_and, and_true, reduceIte, nZ0, nZ1, sτ231_6.1, sτ231_6.2, fun a k => (jτ231 a k).1, fun a k => (jτ231 a k).2]) <;> (first | omega | with_reducible assumption | (unfold rng; omega) | (unfold rng; (repeat' split) <;> omega) | grind)
                          · rename_i hc308
                            skip
                            unfold w_X16_see_311
                            try simp only [forall_eq, rII, rIJ, rIP, rJJ, rJI, rJP, rPP, rPI, rPJ, g1, g2, g3, g4, g5, g6, g7, g8, Nat.reduceEqDiff, Nat.reduceAdd, false_and, and_false, true_and, and_true, reduceIte, nZ0, nZ1, sτ231_6.1, sτ231_6.2, fun a k => (jτ231 a k).1, fun a k => (jτ231 a k).2]
                            refine s_X16_fail g rτ231 (by (try simp only [rII, rIJ, rIP, rJJ, rJI, rJP, rPP, rPI, rPJ, g1, g2, g3, g4, g5, g6, g7, g8, Nat.reduceEqDiff, Nat.reduceAdd, false_and, and_false, true_and, and_true, reduceIte, nZ0, nZ1, sτ231_6.1, sτ231_6.2, fun a k => (jτ231 a k).1, fun a k => (jτ231 a k).2]) <;> (first | omega | with_reducible assumption | (unfold rng; omega) | (unfold rng; (repeat' split) <;> omega) | grind)) (fun σ153 r154 rσ153 fc p30 => ?_)
                            have fσ153 : Fr ra jx rm [] [4, 5, 7, 8, 9, 10, 11, 12, 13] σ σ153 := Fr.tr fτ231 (Fr.mor (fc) (by decide) (by decide))
                            have sσ153_6 := fσ153.2.1 6 (by decide)
                            have jσ153 := fσ153.2.2.1
                            try simp only [forall_eq, rII, rIJ, rIP, rJJ, rJI, rJP, rPP, rPI, rPJ, g1, g2, g3, g4, g5, g6, g7, g8, Nat.reduceEqDiff, Nat.reduceAdd, false_and, and_false, true_and, and_true, reduceIte, nZ0, nZ1, sσ153_6.1, sσ153_6.2, fun a k => (jσ153 a k).1, fun a k => (jσ153 a k).2]
                            refine ⟨by first | assumption | simp, ?_⟩
                            refine hX _ _ ?_ ?_ ?_
                            · exact rσ153
                            · exact fσ153
                            · exact rfl
                        · rename_i hc260
                          skip
                          unfold w_X16_see_263
                          try simp only [forall_eq, rII, rIJ, rIP, rJJ, rJI, rJP, rPP, rPI, rPJ, g1, g2, g3, g4, g5, g6, g7, g8, Nat.reduceEqDiff, Nat.reduceAdd, false_and, and_false, true_and, and_true, reduceIte, nZ0, nZ1, sτ231_6.1, sτ231_6.2, fun a k => (jτ231 a k).1, fun a k => (jτ231 a k).2]
                          refine s_X16_byteAt g rτ231 (by (try simp only [rII, rIJ, rIP, rJJ, rJI, rJP, rPP, rPI, rPJ, g1, g2, g3, g4, g5, g6, g7, g8, Nat.reduceEqDiff, Nat.reduceAdd, false_and, and_false, true_and, and_true, reduceIte, nZ0, nZ1, sτ231_6.1, sτ231_6.2, fun a k => (jτ231 a k).1, fun a k => (jτ231 a k).2]) <;> (first | omega | with_reducible assumption | (unfold rng; omega) | (unfold rng; (repeat' split) <;> omega) | grind)) (fun r156 p31 => ?_)
                          try simp only [forall_eq, rII, rIJ, rIP, rJJ, rJI, rJP, rPP, rPI, rPJ, g1, g2, g3, g4, g5, g6, g7, g8, Nat.reduceEqDiff, Nat.reduceAdd, false_and, and_false, true_and, and_true, reduceIte, nZ0, nZ1, sτ231_6.1, sτ231_6.2, fun a k => (jτ231 a k).1, fun a k => (jτ231 a k).2]
                          refine ⟨by (first | omega | with_reducible assumption | (unfold rng; omega) | (unfold rng; (repeat' split) <;> omega) | grind), ?_⟩
                          refine ⟨by (first | omega | with_reducible assumption | (unfold rng; omega) | (unfold rng; (repeat' split) <;> omega) | grind), ?_⟩
                          refine ih231 _ _ ?_ ?_ ?_ ?_
                          · refine Rg.sI g ?_ (by simp only [rgS]; first | with_reducible exact nZ_rng _ | with_reducible exact nB_rng _ | with_reducible exact wr_rng _ | with_reducible exact i32any _ | (first | omega | with_reducible assumption | (unfold rng; omega) | (unfold rng; (repeat' split) <;> omega) | grind)); refine Rg.sJ g ?_; exact rτ231
                          · refine Fr.sI g ?_ (by decide); refine Fr.sJ g ?_ (by decide); exact fτ231
                          · (try simp only [rII, rIJ, rIP, rJJ, rJI, rJP, rPP, rPI, rPJ, g1, g2, g3, g4, g5, g6, g7, g8, Nat.reduceEqDiff, Nat.reduceAdd, false_and, and_false, true_and, and_true, reduceIte, nZ0, nZ1, sτ231_6.1, sτ231_6.2, fun a k => (jτ231 a k).1, fun a k => (jτ231 a k).2]) <;> (first | omega | with_reducible assumption | (unfold rng; omega) | (unfold rng; (repeat' split) <;> omega) | grind)
                          · (try simp only [rII, rIJ, rIP, rJJ, rJI, rJP, rPP, rPI, rPJ, g1, g2, g3, g4, g5, g6, g7, g8, Nat.reduceEqDiff, Nat.reduceAdd, false_and, and_false, true_and, and_true, reduceIte, nZ0, nZ1, sτ231_6.1, sτ231_6.2, fun a k => (jτ231 a k).1, fun a k => (jτ231 a k).2]) <;> (first | omega | with_reducible assumption | (unfold rng; omega) | (unfold rng; (repeat' split) <;> omega) | grind)
                  refine ⟨_, L231 _ _ _ ?_ ?_ ?_ (Nat.lt_succ_self _)⟩
                  · refine Rg.sJ g ?_; refine Rg.sI g ?_ (by simp only [rgS]; first | with_reducible exact nZ_rng _ | with_reducible exact nB_rng _ | with_reducible exact wr_rng _ | with_reducible exact i32any _ | (first | omega | with_reducible assumption | (unfold rng; omega) | (unfold rng; (repeat' split) <;> omega) | grind)); refine Rg.sI g ?_ (by simp only [rgS]; first | with_reducible exact nZ_rng _ | with_reducible exact nB_rng _ | with_reducible exact wr_rng _ | with_reducible exact i32any _ | (first | omega | with_reducible assumption | (unfold rng; omega) | (unfold rng; (repeat' split) <;> omega) | grind)); refine Rg.sI g ?_ (by simp only [rgS]; first | with_reducible exact nZ_rng _ | with_reducible exact nB_rng _ | with_reducible exact wr_rng _ | with_reducible exact i32any _ | (first | omega | with_reducible assumption | (unfold rng; omega) | (unfold rng; (repeat' split) <;> omega) | grind)); exact rτ8
                  · refine Fr.sJ g ?_ (by decide); refine Fr.sI g ?_ (by decide); refine Fr.sI g ?_ (by decide); refine Fr.sI g ?_ (by decide); exact fτ8
                  · (try simp only [rII, rIJ, rIP, rJJ, rJI, rJP, rPP, rPI, rPJ, g1, g2, g3, g4, g5, g6, g7, g8, Nat.reduceEqDiff, Nat.reduceAdd, false_and, and_false, true_and, and_true, reduceIte, nZ0, nZ1, sτ8_6.1, sτ8_6.2, fun a k => (jτ8 a k).1, fun a k => (jτ8 a k).2]) <;> (first | omega | with_reducible assumption | (unfold rng; omega) | (unfold rng; (repeat' split) <;> omega) | grind)
              · rename_i hc95
                skip
                unfold w_X16_see_98
                try simp only [forall_eq, rII, rIJ, rIP, rJJ, rJI, rJP, rPP, rPI, rPJ, g1, g2, g3, g4, g5, g6, g7, g8, Nat.reduceEqDiff, Nat.reduceAdd, false_and, and_false, true_and, and_true, reduceIte, nZ0, nZ1, sτ8_6.1, sτ8_6.2, fun a k => (jτ8 a k).1, fun a k => (jτ8 a k).2]
                have L113 : ∀ (fu113 : Nat) (τ113 : Sg), Rg ra jx rm τ113 → Fr ra jx rm [] [4, 5, 7, 8, 9, 10, 11, 12, 13] σ τ113 → (gI τ113 rm 7 ≤ gI σ rm 6 ∧ 0 ≤ gI τ113 rm 12 ∧ gI τ113 rm 12 ≤ gI τ113 rm 7 ∧ gI τ113 rm 8 = 1) → ((gI σ rm 6 - gI τ113 rm 7).toNat) < fu113 → wl_X16_see_113 ra jx rm Q X fu113 τ113 := by
                  intro fu113
                  induction fu113 with
                  | zero => intro τ113 _ _ _ h9; omega
                  | succ fu113 ih113 =>
                    intro τ113 rτ113 fτ113 hi113 hm113
                    unfold wl_X16_see_113
                    have sτ113_6 := fτ113.2.1 6 (by decide)
                    have jτ113 := fτ113.2.2.1
                    unfold w_X16_see_113
                    try simp only [forall_eq, rII, rIJ, rIP, rJJ, rJI, rJP, rPP, rPI, rPJ, g1, g2, g3, g4, g5, g6, g7, g8, Nat.reduceEqDiff, Nat.reduceAdd, false_and, and_false, true_and, and_true, reduceIte, nZ0, nZ1, sτ113_6.1, sτ113_6.2, fun a k => (jτ113 a k).1, fun a k => (jτ113 a k).2]
                    have q1136 := rσ.2.1 6; simp only [rgS] at q1136
                    have q1137 := rτ113.2.1 7; simp only [rgS] at q1137
                    have q32 := rτ113.2.1 7; simp only [rgS] at q32
                    split
                    · rename_i hc121
                      skip
                      unfold w_X16_see_361
                      try simp only [forall_eq, rII, rIJ, rIP, rJJ, rJI, rJP, rPP, rPI, rPJ, g1, g2, g3, g4, g5, g6, g7, g8, Nat.reduceEqDiff, Nat.reduceAdd, false_and, and_false, true_and, and_true, reduceIte, nZ0, nZ1, sτ113_6.1, sτ113_6.2, fun a k => (jτ113 a k).1, fun a k => (jτ113 a k).2]
                      refine hQ _ _ ?_ ?_ ?_
                      · exact rτ113
                      · exact fτ113
                      · (try simp only [rII, rIJ, rIP, rJJ, rJI, rJP, rPP, rPI, rPJ, g1, g2, g3, g4, g5, g6, g7, g8, Nat.reduceEqDiff, Nat.reduceAdd, false_and, and_false, true_and, and_true, reduceIte, nZ0, nZ1, sτ113_6.1, sτ113_6.2, fun a k => (jτ113 a k).1, fun a k => (jτ113 a k).2]) <;> (first | omega | with_reducible assumption | (unfold rng; omega) | (unfold rng; (repeat' split) <;> omega) | grind)
                    · rename_i hc121
                      skip
                      unfold w_X16_see_124
                      try simp only [forall_eq, rII, rIJ, rIP, rJJ, rJI, rJP, rPP, rPI, rPJ, g1, g2, g3, g4, g5, g6, g7, g8, Nat.reduceEqDiff, Nat.reduceAdd, false_and, and_false, true_and, and_true, reduceIte, nZ0, nZ1, sτ113_6.1, sτ113_6.2, fun a k => (jτ113 a k).1, fun a k => (jτ113 a k).2]
                      refine s_X16_byteAt g rτ113 (by (try simp only [rII, rIJ, rIP, rJJ, rJI, rJP, rPP, rPI, rPJ, g1, g2, g3, g4, g5, g6, g7, g8, Nat.reduceEqDiff, Nat.reduceAdd, false_and, and_false, true_and, and_true, reduceIte, nZ0, nZ1, sτ113_6.1, sτ113_6.2, fun a k => (jτ113 a k).1, fun a k => (jτ113 a k).2]) <;> (first | omega | with_reducible assumption | (unfold rng; omega) | (unfold rng; (repeat' split) <;> omega) | grind)) (fun r163 p33 => ?_)
                      try simp only [forall_eq, rII, rIJ, rIP, rJJ, rJI, rJP, rPP, rPI, rPJ, g1, g2, g3, g4, g5, g6, g7, g8, Nat.reduceEqDiff, Nat.reduceAdd, false_and, and_false, true_and, and_true, reduceIte, nZ0, nZ1, sτ113_6.1, sτ113_6.2, fun a k => (jτ113 a k).1, fun a k => (jτ113 a k).2]
                      refine s_X16_within g rτ113 (fun r165 p34 => ?_)
                      obtain ⟨p34, p34b⟩ := p34
                      have p34w : r165 = 1 → 97 ≤ r163 ∧ r163 ≤ 122 := fun e => win (by (first | omega | with_reducible assumption | (unfold rng; omega) | (unfold rng; (repeat' split) <;> omega) | grind)) (p34b e)
                      try simp only [forall_eq, rII, rIJ, rIP, rJJ, rJI, rJP, rPP, rPI, rPJ, g1, g2, g3, g4, g5, g6, g7, g8, Nat.reduceEqDiff, Nat.reduceAdd, false_and, and_false, true_and, and_true, reduceIte, nZ0, nZ1, sτ113_6.1, sτ113_6.2, fun a k => (jτ113 a k).1, fun a k => (jτ113 a k).2]
                      split
                      · rename_i hc142
                        skip
                        unfold w_X16_see_361
                        try simp only [forall_eq, rII, rIJ, rIP, rJJ, rJI, rJP, rPP, rPI, rPJ, g1, g2, g3, g4, g5, g6, g7, g8, Nat.reduceEqDiff, Nat.reduceAdd, false_and, and_false, true_and, and_true, reduceIte, nZ0, nZ1, sτ113_6.1, sτ113_6.2, fun a k => (jτ113 a k).1, fun a k => (jτ113 a k).2]
                        refine hQ _ _ ?_ ?_ ?_
                        · exact rτ113
                        · exact fτ113
                        · (try simp only [rII, rIJ, rIP, rJJ, rJI, rJP, rPP, rPI, rPJ, g1, g2, g3, g4, g5, g6, g7, g8, Nat.reduceEqDiff, Nat.reduceAdd, false_and, and_false, true_and, and_true, reduceIte, nZ0, nZ1, sτ113_6.1, sτ113_6.2, fun a k => (jτ113 a k).1, fun a k => (jτ113 a k).2]) <;> (first | omega | with_reducible assumption | (unfold rng; omega) | (unfold rng; (repeat' split) <;> omega) | grind)
                      · rename_i hc142
                        skip
                        unfold w_X16_see_145
                        try simp only [forall_eq, rII, rIJ, rIP, rJJ, rJI, rJP, rPP, rPI, rPJ, g1, g2, g3, g4, g5, g6, g7, g8, Nat.reduceEqDiff, Nat.reduceAdd, false_and, and_false, true_and, and_true, reduceIte, nZ0, nZ1, sτ113_6.1, sτ113_6.2, fun a k => (jτ113 a k).1, fun a k => (jτ113 a k).2]
                        have q35 := rτ113.2.1 12; simp only [rgS] at q35
                        split
                        · rename_i hc152
                          skip
                          unfold w_X16_see_175
                          try simp only [forall_eq, rII, rIJ, rIP, rJJ, rJI, rJP, rPP, rPI, rPJ, g1, g2, g3, g4, g5, g6, g7, g8, Nat.reduceEqDiff, Nat.reduceAdd, false_and, and_false, true_and, and_true, reduceIte, nZ0, nZ1, sτ113_6.1, sτ113_6.2, fun a k => (jτ113 a k).1, fun a k => (jτ113 a k).2]
                          unfold w_X16_see_179
                          try simp only [forall_eq, rII, rIJ, rIP, rJJ, rJI, rJP, rPP, rPI, rPJ, g1, g2, g3, g4, g5, g6, g7, g8, Nat.reduceEqDiff, Nat.reduceAdd, false_and, and_false, true_and, and_true, reduceIte, nZ0, nZ1, sτ113_6.1, sτ113_6.2, fun a k => (jτ113 a k).1, fun a k => (jτ113 a k).2]
                          refine ⟨by (first | omega | with_reducible assumption | (unfold rng; omega) | (unfold rng; (repeat' split) <;> omega) | grind), ?_⟩
                          refine ⟨by (first | omega | with_reducible assumption | (unfold rng; omega) | (unfold rng; (repeat' split) <;> omega) | grind), ?_⟩
                          refine ih113 _ ?_ ?_ ?_ ?_
                          · refine Rg.sI g ?_ (by simp only [rgS]; first | with_reducible exact nZ_rng _ | with_reducible exact nB_rng _ | with_reducible exact wr_rng _ | with_reducible exact i32any _ | (first | omega | with_reducible assumption | (unfold rng; omega) | (unfold rng; (repeat' split) <;> omega) | grind)); refine Rg.sI g ?_ (by simp only [rgS]; first | with_reducible exact nZ_rng _ | with_reducible exact nB_rng _ | with_reducible exact wr_rng _ | with_reducible exact i32any _ | (first | omega | with_reducible assumption | (unfold rng; omega) | (unfold rng; (repeat' split) <;> omega) | grind)); refine Rg.sJ g ?_; exact rτ113
                          · refine Fr.sI g ?_ (by decide); refine Fr.sI g ?_ (by decide); refine Fr.sJ g ?_ (by decide); exact fτ113
                          · (try simp only [rII, rIJ, rIP, rJJ, rJI, rJP, rPP, rPI, rPJ, g1, g2, g3, g4, g5, g6, g7, g8, Nat.reduceEqDiff, Nat.reduceAdd, false_and, and_false, true_and, and_true, reduceIte, nZ0, nZ1, sτ113_6.1, sτ113_6.2, fun a k => (jτ113 a k).1, fun a k => (jτ113 a k).2]) <;> (first | omega | with_reducible assumption | (unfold rng; omega) | (unfold rng; (repeat' split) <;> omega) | grind)
                          · (try simp only [rII, rIJ, rIP, rJJ, rJI, rJP, rPP, rPI, rPJ, g1, g2, g3, g4, g5, g6, g7, g8, Nat.reduceEqDiff, Nat.reduceAdd, false_and, and_false, true_and, and_true, reduceIte, nZ0, nZ1, sτ113_6.1, sτ113_6.2, fun a k => (jτ113 a k).1, fun a k => (jτ113 a k).2]) <;> (first | omega | with_reducible assumption | (unfold rng; omega) | (unfold rng; (repeat' split) <;> omega) | grind)
                        · rename_i hc152
                          skip
                          unfold w_X16_see_155
                          try simp only [forall_eq, rII, rIJ, rIP, rJJ, rJI, rJP, rPP, rPI, rPJ, g1, g2, g3, g4, g5, g6, g7, g8, Nat.reduceEqDiff, Nat.reduceAdd, false_and, and_false, true_and, and_true, reduceIte, nZ0, nZ1, sτ113_6.1, sτ113_6.2, fun a k => (jτ113 a k).1, fun a k => (jτ113 a k).2]
                          refine s_X16_byteAt g rτ113 (by (try simp only [rII, rIJ, rIP, rJJ, rJI, rJP, rPP, rPI, rPJ, g1, g2, g3, g4, g5, g6, g7, g8, Nat.reduceEqDiff, Nat.reduceAdd, false_and, and_false, true_and, and_true, reduceIte, nZ0, nZ1, sτ113_6.1, sτ113_6.2, fun a k => (jτ113 a k).1, fun a k => (jτ113 a k).2]) <;> (first | omega | with_reducible assumption | (unfold rng; omega) | (unfold rng; (repeat' split) <;> omega) | grind)) (fun r170 p36 => ?_)
                          try simp only [forall_eq, rII, rIJ, rIP, rJJ, rJI, rJP, rPP, rPI, rPJ, g1, g2, g3, g4, g5, g6, g7, g8, Nat.reduceEqDiff, Nat.reduceAdd, false_and, and_false, true_and, and_true, reduceIte, nZ0, nZ1, sτ113_6.1, sτ113_6.2, fun a k => (jτ113 a k).1, fun a k => (jτ113 a k).2]
                          unfold w_X16_see_179
                          try simp only [forall_eq, rII, rIJ, rIP, rJJ, rJI, rJP, rPP, rPI, rPJ, g1, g2, g3, g4, g5, g6, g7, g8, Nat.reduceEqDiff, Nat.reduceAdd, false_and, and_false, true_and, and_true, reduceIte, nZ0, nZ1, sτ113_6.1, sτ113_6.2, fun a k => (jτ113 a k).1, fun a k => (jτ113 a k).2]
                          refine ⟨by (first | omega | with_reducible assumption | (unfold rng; omega) | (unfold rng; (repeat' split) <;> omega) | grind), ?_⟩
                          refine ⟨by (first | omega | with_reducible assumption | (unfold rng; omega) | (unfold rng; (repeat' split) <;> omega) | grind), ?_⟩
                          refine ih113 _ ?_ ?_ ?_ ?_
                          · refine Rg.sI g ?_ (by simp only [rgS]; first | with_reducible exact nZ_rng _ | with_reducible exact nB_rng _ | with_reducible exact wr_rng _ | with_reducible exact i32any _ | (first | omega | with_reducible assumption | (unfold rng; omega) | (unfold rng; (repeat' split) <;> omega) | grind)); refine Rg.sI g ?_ (by simp only [rgS]; first | with_reducible exact nZ_rng _ | with_reducible exact nB_rng _ | with_reducible exact wr_rng _ | with_reducible exact i32any _ | (first | omega | with_reducible assumption | (unfold rng; omega) | (unfold rng; (repeat' split) <;> omega) | grind)); refine Rg.sJ g ?_; exact rτ113
                          · refine Fr.sI g ?_ (by decide); refine Fr.sI g ?_ (by decide); refine Fr.sJ g ?_ (by decide); exact fτ113
                          · (try simp only [rII, rIJ, rIP, rJJ, rJI, rJP, rPP, rPI, rPJ, g1, g2, g3, g4, g5, g6, g7, g8, Nat.reduceEqDiff, Nat.reduceAdd, false_and, and_false, true_and, and_true, reduceIte, nZ0, nZ1, sτ113_6.1, sτ113_6.2, fun a k => (jτ113 a k).1, fun a k => (jτ113 a k).2]) <;> (first | omega | with_reducible assumption | (unfold rng; omega) | (unfold rng; (repeat' split) <;> omega) | grind)
                          · (try simp only [rII, rIJ, rIP, rJJ, rJI, rJP, rPP, rPI, rPJ, g1, g2, g3, g4, g5, g6, g7, g8, Nat.reduceEqDiff, Nat.reduceAdd, false_and, and_false, true_and, and_true, reduceIte, nZ0, nZ1, sτ113_6.1, sτ113_6.2, fun a k => (jτ113 a k).1, fun a k => (jτ113 a k).2]) <;> (first | omega | with_reducible assumption | (unfold rng; omega) | (unfold rng; (repeat' split) <;> omega) | grind)
                refine ⟨_, L113 _ _ ?_ ?_ ?_ (Nat.lt_succ_self _)⟩
                · refine Rg.sI g ?_ (by simp only [rgS]; first | with_reducible exact nZ_rng _ | with_reducible exact nB_rng _ | with_reducible exact wr_rng _ | with_reducible exact i32any _ | (first | omega | with_reducible assumption | (unfold rng; omega) | (unfold rng; (repeat' split) <;> omega) | grind)); refine Rg.sJ g ?_; refine Rg.sI g ?_ (by simp only [rgS]; first | with_reducible exact nZ_rng _ | with_reducible exact nB_rng _ | with_reducible exact wr_rng _ | with_reducible exact i32any _ | (first | omega | with_reducible assumption | (unfold rng; omega) | (unfold rng; (repeat' split) <;> omega) | grind)); refine Rg.sI g ?_ (by simp only [rgS]; first | with_reducible exact nZ_rng _ | with_reducible exact nB_rng _ | with_reducible exact wr_rng _ | with_reducible exact i32any _ | (first | omega | with_reducible assumption | (unfold rng; omega) | (unfold rng; (repeat' split) <;> omega) | grind)); refine Rg.sI g ?_ (by simp only [rgS]; first | with_reducible exact nZ_rng _ | with_reducible exact nB_rng _ | with_reducible exact wr_rng _ | with_reducible exact i32any _ | (first | omega | with_reducible assumption | (unfold rng; omega) | (unfold rng; (repeat' split) <;> omega) | grind)); exact rτ8
                · refine Fr.sI g ?_ (by decide); refine Fr.sJ g ?_ (by decide); refine Fr.sI g ?_ (by decide); refine Fr.sI g ?_ (by decide); refine Fr.sI g ?_ (by decide); exact fτ8
                · (try simp only [rII, rIJ, rIP, rJJ, rJI, rJP, rPP, rPI, rPJ, g1, g2, g3, g4, g5, g6, g7, g8, Nat.reduceEqDiff, Nat.reduceAdd, false_and, and_false, true_and, and_true, reduceIte, nZ0, nZ1, sτ8_6.1, sτ8_6.2, fun a k => (jτ8 a k).1, fun a k => (jτ8 a k).2]) <;> (first | omega | with_reducible assumption | (unfold rng; omega) | (unfold rng; (repeat' split) <;> omega) | grind)
            · rename_i hc66
              skip
              unfold w_X16_see_69
              try simp only [forall_eq, rII, rIJ, rIP, rJJ, rJI, rJP, rPP, rPI, rPJ, g1, g2, g3, g4, g5, g6, g7, g8, Nat.reduceEqDiff, Nat.reduceAdd, false_and, and_false, true_and, and_true, reduceIte, nZ0, nZ1, sτ8_6.1, sτ8_6.2, fun a k => (jτ8 a k).1, fun a k => (jτ8 a k).2]
              refine hQ _ _ ?_ ?_ ?_
              · refine Rg.sI g ?_ (by simp only [rgS]; first | with_reducible exact nZ_rng _ | with_reducible exact nB_rng _ | with_reducible exact wr_rng _ | with_reducible exact i32any _ | (first | omega | with_reducible assumption | (unfold rng; omega) | (unfold rng; (repeat' split) <;> omega) | grind)); refine Rg.sI g ?_ (by simp only [rgS]; first | with_reducible exact nZ_rng _ | with_reducible exact nB_rng _ | with_reducible exact wr_rng _ | with_reducible exact i32any _ | (first | omega | with_reducible assumption | (unfold rng; omega) | (unfold rng; (repeat' split) <;> omega) | grind)); refine Rg.sI g ?_ (by simp only [rgS]; first | with_reducible exact nZ_rng _ | with_reducible exact nB_rng _ | with_reducible exact wr_rng _ | with_reducible exact i32any _ | (first | omega | with_reducible assumption | (unfold rng; omega) | (unfold rng; (repeat' split) <;> omega) | grind)); exact rτ8
              · refine Fr.sI g ?_ (by decide); refine Fr.sI g ?_ (by decide); refine Fr.sI g ?_ (by decide); exact fτ8
              · (try simp only [rII, rIJ, rIP, rJJ, rJI, rJP, rPP, rPI, rPJ, g1, g2, g3, g4, g5, g6, g7, g8, Nat.reduceEqDiff, Nat.reduceAdd, false_and, and_false, true_and, and_true, reduceIte, nZ0, nZ1, sτ8_6.1, sτ8_6.2, fun a k => (jτ8 a k).1, fun a k => (jτ8 a k).2]) <;> (first | omega | with_reducible assumption | (unfold rng; omega) | (unfold rng; (repeat' split) <;> omega) | grind)
          · rename_i hc29
            skip
            unfold w_X16_see_32
            try simp only [forall_eq, rII, rIJ, rIP, rJJ, rJI, rJP, rPP, rPI, rPJ, g1, g2, g3, g4, g5, g6, g7, g8, Nat.reduceEqDiff, Nat.reduceAdd, false_and, and_false, true_and, and_true, reduceIte, nZ0, nZ1, sτ8_6.1, sτ8_6.2, fun a k => (jτ8 a k).1, fun a k => (jτ8 a k).2]
            refine ⟨by (first | omega | with_reducible assumption | (unfold rng; omega) | (unfold rng; (repeat' split) <;> omega) | grind), ?_⟩
            refine ih8 _ ?_ ?_ ?_ ?_
            · refine Rg.sI g ?_ (by simp only [rgS]; first | with_reducible exact nZ_rng _ | with_reducible exact nB_rng _ | with_reducible exact wr_rng _ | with_reducible exact i32any _ | (first | omega | with_reducible assumption | (unfold rng; omega) | (unfold rng; (repeat' split) <;> omega) | grind)); exact rτ8
            · refine Fr.sI g ?_ (by decide); exact fτ8
            · (try simp only [rII, rIJ, rIP, rJJ, rJI, rJP, rPP, rPI, rPJ, g1, g2, g3, g4, g5, g6, g7, g8, Nat.reduceEqDiff, Nat.reduceAdd, false_and, and_false, true_and, and_true, reduceIte, nZ0, nZ1, sτ8_6.1, sτ8_6.2, fun a k => (jτ8 a k).1, fun a k => (jτ8 a k).2]) <;> (first | omega | with_reducible assumption | (unfold rng; omega) | (unfold rng; (repeat' split) <;> omega) | grind)
            · (try simp only [rII, rIJ, rIP, rJJ, rJI, rJP, rPP, rPI, rPJ, g1, g2, g3, g4, g5, g6, g7, g8, Nat.reduceEqDiff, Nat.reduceAdd, false_and, and_false, true_and, and_true, reduceIte, nZ0, nZ1, sτ8_6.1, sτ8_6.2, fun a k => (jτ8 a k).1, fun a k => (jτ8 a k).2]) <;> (first | omega | with_reducible assumption | (unfold rng; omega) | (unfold rng; (repeat' split) <;> omega) | grind)
    refine ⟨_, L8 _ _ ?_ ?_ ?_ (Nat.lt_succ_self _)⟩
    · exact rσ
    · exact fσ
    · (try simp only [rII, rIJ, rIP, rJJ, rJI, rJP, rPP, rPI, rPJ, g1, g2, g3, g4, g5, g6, g7, g8, Nat.reduceEqDiff, Nat.reduceAdd, false_and, and_false, true_and, and_true, reduceIte, nZ0, nZ1]) <;> (first | omega | with_reducible assumption | (unfold rng; omega) | (unfold rng; (repeat' split) <;> omega) | grind)
  · rename_i hc4
    skip
    unfold w_X16_see_7
    try simp only [forall_eq, rII, rIJ, rIP, rJJ, rJI, rJP, rPP, rPI, rPJ, g1, g2, g3, g4, g5, g6, g7, g8, Nat.reduceEqDiff, Nat.reduceAdd, false_and, and_false, true_and, and_true, reduceIte, nZ0, nZ1]
    refine hQ _ _ ?_ ?_ ?_
    · exact rσ
    · exact fσ
    · (try simp only [rII, rIJ, rIP, rJJ, rJI, rJP, rPP, rPI, rPJ, g1, g2, g3, g4, g5, g6, g7, g8, Nat.reduceEqDiff, Nat.reduceAdd, false_and, and_false, true_and, and_true, reduceIte, nZ0, nZ1]) <;> (first | omega | with_reducible assumption | (unfold rng; omega) | (unfold rng; (repeat' split) <;> omega) | grind)
set_option maxHeartbeats 4000000 in
theorem s_X16_isWord {ra : Nat → Nat} {jx : Nat → Nat → Nat} {rm : Nat} (g : Geo ra jx rm) {σ : Sg} {v1 : Nat} (rσ : Rg ra jx rm σ) (hat : gI σ rm 7 ≤ gI σ rm 6) {Q : Sg → Int → Prop} {X : Sg → String → Prop} (hQ : ∀ (σ' : Sg) (r : Int), Rg ra jx rm σ' → Fr ra jx rm [] [4, 5, 7, 8, 9, 10, 11, 12, 13] σ σ' → ((r = 0 ∨ r = 1) ∧ gI σ' rm 7 ≤ gI σ rm 6) → Q σ' r) (hX : ∀ (σ' : Sg) (E : String), Rg ra jx rm σ' → Fr ra jx rm [] [4, 5, 7, 8, 9, 10, 11, 12, 13] σ σ' → (E = "StreamHouseModel$Fault") → X σ' E) : wp_X16_isWord ra jx rm v1 σ Q X := by
  obtain ⟨g1, g2, g3, g4, g5, g6, g7, g8⟩ := id g
  have fσ : Fr ra jx rm [] [4, 5, 7, 8, 9, 10, 11, 12, 13] σ σ := Fr.rf
  unfold wp_X16_isWord
  unfold w_X16_isWord_0
  try simp only [forall_eq, rII, rIJ, rIP, rJJ, rJI, rJP, rPP, rPI, rPJ, g1, g2, g3, g4, g5, g6, g7, g8, Nat.reduceEqDiff, Nat.reduceAdd, false_and, and_false, true_and, and_true, reduceIte, nZ0, nZ1]
  refine s_X16_see g rσ (by (try simp only [rII, rIJ, rIP, rJJ, rJI, rJP, rPP, rPI, rPJ, g1, g2, g3, g4, g5, g6, g7, g8, Nat.reduceEqDiff, Nat.reduceAdd, false_and, and_false, true_and, and_true, reduceIte, nZ0, nZ1]) <;> (first | omega | with_reducible assumption | (unfold rng; omega) | (unfold rng; (repeat' split) <;> omega) | grind)) (fun σ7 _ rσ7 fc p1 => ?_) (fun σx E rx fx px => hX _ _ rx (Fr.tr fσ (Fr.mor (fx) (by decide) (by decide))) px)
  have fσ7 : Fr ra jx rm [] [4, 5, 7, 8, 9, 10, 11, 12, 13] σ σ7 := Fr.tr fσ (Fr.mor (fc) (by decide) (by decide))
  have sσ7_6 := fσ7.2.1 6 (by decide)
  have jσ7 := fσ7.2.2.1
  try simp only [rII, rIJ, rIP, rJJ, rJI, rJP, rPP, rPI, rPJ, g1, g2, g3, g4, g5, g6, g7, g8, Nat.reduceEqDiff, Nat.reduceAdd, false_and, and_false, true_and, and_true, reduceIte, nZ0, nZ1, sσ7_6.1, sσ7_6.2, fun a k => (jσ7 a k).1, fun a k => (jσ7 a k).2] at p1
  try simp only [forall_eq, rII, rIJ, rIP, rJJ, rJI, rJP, rPP, rPI, rPJ, g1, g2, g3, g4, g5, g6, g7, g8, Nat.reduceEqDiff, Nat.reduceAdd, false_and, and_false, true_and, and_true, reduceIte, nZ0, nZ1, sσ7_6.1, sσ7_6.2, fun a k => (jσ7 a k).1, fun a k => (jσ7 a k).2]
  have q2 := rσ7.2.1 9; simp only [rgS] at q2
  split
  · rename_i hc9
    skip
    unfold w_X16_isWord_39
    try simp only [forall_eq, rII, rIJ, rIP, rJJ, rJI, rJP, rPP, rPI, rPJ, g1, g2, g3, g4, g5, g6, g7, g8, Nat.reduceEqDiff, Nat.reduceAdd, false_and, and_false, true_and, and_true, reduceIte, nZ0, nZ1, sσ7_6.1, sσ7_6.2, fun a k => (jσ7 a k).1, fun a k => (jσ7 a k).2]
    unfold w_X16_isWord_40
    try simp only [forall_eq, rII, rIJ, rIP, rJJ, rJI, rJP, rPP, rPI, rPJ, g1, g2, g3, g4, g5, g6, g7, g8, Nat.reduceEqDiff, Nat.reduceAdd, false_and, and_false, true_and, and_true, reduceIte, nZ0, nZ1, sσ7_6.1, sσ7_6.2, fun a k => (jσ7 a k).1, fun a k => (jσ7 a k).2]
    refine ⟨by (first | omega | with_reducible assumption | (unfold rng; omega) | (unfold rng; (repeat' split) <;> omega) | grind), ?_⟩
    refine hQ _ _ ?_ ?_ ?_
    · exact rσ7
    · exact fσ7
    · (try simp only [rII, rIJ, rIP, rJJ, rJI, rJP, rPP, rPI, rPJ, g1, g2, g3, g4, g5, g6, g7, g8, Nat.reduceEqDiff, Nat.reduceAdd, false_and, and_false, true_and, and_true, reduceIte, nZ0, nZ1, sσ7_6.1, sσ7_6.2, fun a k => (jσ7 a k).1, fun a k => (jσ7 a k).2]) <;> (first | omega | with_reducible assumption | (unfold rng; omega) | (unfold rng; (repeat' split) <;> omega) | grind)
  · rename_i hc9
    skip
    unfold w_X16_isWord_12
    try simp only [forall_eq, rII, rIJ, rIP, rJJ, rJI, rJP, rPP, rPI, rPJ, g1, g2, g3, g4, g5, g6, g7, g8, Nat.reduceEqDiff, Nat.reduceAdd, false_and, and_false, true_and, and_true, reduceIte, nZ0, nZ1, sσ7_6.1, sσ7_6.2, fun a k => (jσ7 a k).1, fun a k => (jσ7 a k).2]
    have q3 := rσ7.2.1 12; simp only [rgS] at q3
    split
    · rename_i hc20
      skip
      unfold w_X16_isWord_39
      try simp only [forall_eq, rII, rIJ, rIP, rJJ, rJI, rJP, rPP, rPI, rPJ, g1, g2, g3, g4, g5, g6, g7, g8, Nat.reduceEqDiff, Nat.reduceAdd, false_and, and_false, true_and, and_true, reduceIte, nZ0, nZ1, sσ7_6.1, sσ7_6.2, fun a k => (jσ7 a k).1, fun a k => (jσ7 a k).2]
      unfold w_X16_isWord_40
      try simp only [forall_eq, rII, rIJ, rIP, rJJ, rJI, rJP, rPP, rPI, rPJ, g1, g2, g3, g4, g5, g6, g7, g8, Nat.reduceEqDiff, Nat.reduceAdd, false_and, and_false, true_and, and_true, reduceIte, nZ0, nZ1, sσ7_6.1, sσ7_6.2, fun a k => (jσ7 a k).1, fun a k => (jσ7 a k).2]
      refine ⟨by (first | omega | with_reducible assumption | (unfold rng; omega) | (unfold rng; (repeat' split) <;> omega) | grind), ?_⟩
      refine hQ _ _ ?_ ?_ ?_
      · exact rσ7
      · exact fσ7
      · (try simp only [rII, rIJ, rIP, rJJ, rJI, rJP, rPP, rPI, rPJ, g1, g2, g3, g4, g5, g6, g7, g8, Nat.reduceEqDiff, Nat.reduceAdd, false_and, and_false, true_and, and_true, reduceIte, nZ0, nZ1, sσ7_6.1, sσ7_6.2, fun a k => (jσ7 a k).1, fun a k => (jσ7 a k).2]) <;> (first | omega | with_reducible assumption | (unfold rng; omega) | (unfold rng; (repeat' split) <;> omega) | grind)
    · rename_i hc20
      skip
      unfold w_X16_isWord_23
      try simp only [forall_eq, rII, rIJ, rIP, rJJ, rJI, rJP, rPP, rPI, rPJ, g1, g2, g3, g4, g5, g6, g7, g8, Nat.reduceEqDiff, Nat.reduceAdd, false_and, and_false, true_and, and_true, reduceIte, nZ0, nZ1, sσ7_6.1, sσ7_6.2, fun a k => (jσ7 a k).1, fun a k => (jσ7 a k).2]
      refine s_X16_nameOf g rσ7 (fun r9 p4 => ?_)
      try simp only [rII, rIJ, rIP, rJJ, rJI, rJP, rPP, rPI, rPJ, g1, g2, g3, g4, g5, g6, g7, g8, Nat.reduceEqDiff, Nat.reduceAdd, false_and, and_false, true_and, and_true, reduceIte, nZ0, nZ1, sσ7_6.1, sσ7_6.2, fun a k => (jσ7 a k).1, fun a k => (jσ7 a k).2] at p4
      try simp only [forall_eq, rII, rIJ, rIP, rJJ, rJI, rJP, rPP, rPI, rPJ, g1, g2, g3, g4, g5, g6, g7, g8, Nat.reduceEqDiff, Nat.reduceAdd, false_and, and_false, true_and, and_true, reduceIte, nZ0, nZ1, sσ7_6.1, sσ7_6.2, fun a k => (jσ7 a k).1, fun a k => (jσ7 a k).2]
      split
      · rename_i hc32
        skip
        unfold w_X16_isWord_39
        try simp only [forall_eq, rII, rIJ, rIP, rJJ, rJI, rJP, rPP, rPI, rPJ, g1, g2, g3, g4, g5, g6, g7, g8, Nat.reduceEqDiff, Nat.reduceAdd, false_and, and_false, true_and, and_true, reduceIte, nZ0, nZ1, sσ7_6.1, sσ7_6.2, fun a k => (jσ7 a k).1, fun a k => (jσ7 a k).2]
        unfold w_X16_isWord_40
        try simp only [forall_eq, rII, rIJ, rIP, rJJ, rJI, rJP, rPP, rPI, rPJ, g1, g2, g3, g4, g5, g6, g7, g8, Nat.reduceEqDiff, Nat.reduceAdd, false_and, and_false, true_and, and_true, reduceIte, nZ0, nZ1, sσ7_6.1, sσ7_6.2, fun a k => (jσ7 a k).1, fun a k => (jσ7 a k).2]
        refine ⟨by (first | omega | with_reducible assumption | (unfold rng; omega) | (unfold rng; (repeat' split) <;> omega) | grind), ?_⟩
        refine hQ _ _ ?_ ?_ ?_
        · exact rσ7
        · exact fσ7
        · (try simp only [rII, rIJ, rIP, rJJ, rJI, rJP, rPP, rPI, rPJ, g1, g2, g3, g4, g5, g6, g7, g8, Nat.reduceEqDiff, Nat.reduceAdd, false_and, and_false, true_and, and_true, reduceIte, nZ0, nZ1, sσ7_6.1, sσ7_6.2, fun a k => (jσ7 a k).1, fun a k => (jσ7 a k).2]) <;> (first | omega | with_reducible assumption | (unfold rng; omega) | (unfold rng; (repeat' split) <;> omega) | grind)
      · rename_i hc32
        skip
        unfold w_X16_isWord_35
        try simp only [forall_eq, rII, rIJ, rIP, rJJ, rJI, rJP, rPP, rPI, rPJ, g1, g2, g3, g4, g5, g6, g7, g8, Nat.reduceEqDiff, Nat.reduceAdd, false_and, and_false, true_and, and_true, reduceIte, nZ0, nZ1, sσ7_6.1, sσ7_6.2, fun a k => (jσ7 a k).1, fun a k => (jσ7 a k).2]
        unfold w_X16_isWord_40
        try simp only [forall_eq, rII, rIJ, rIP, rJJ, rJI, rJP, rPP, rPI, rPJ, g1, g2, g3, g4, g5, g6, g7, g8, Nat.reduceEqDiff, Nat.reduceAdd, false_and, and_false, true_and, and_true, reduceIte, nZ0, nZ1, sσ7_6.1, sσ7_6.2, fun a k => (jσ7 a k).1, fun a k => (jσ7 a k).2]
        refine ⟨by (first | omega | with_reducible assumption | (unfold rng; omega) | (unfold rng; (repeat' split) <;> omega) | grind), ?_⟩
        refine hQ _ _ ?_ ?_ ?_
        · exact rσ7
        · exact fσ7
        · (try simp only [rII, rIJ, rIP, rJJ, rJI, rJP, rPP, rPI, rPJ, g1, g2, g3, g4, g5, g6, g7, g8, Nat.reduceEqDiff, Nat.reduceAdd, false_and, and_false, true_and, and_true, reduceIte, nZ0, nZ1, sσ7_6.1, sσ7_6.2, fun a k => (jσ7 a k).1, fun a k => (jσ7 a k).2]) <;> (first | omega | with_reducible assumption | (unfold rng; omega) | (unfold rng; (repeat' split) <;> omega) | grind)
set_option maxHeartbeats 4000000 in
theorem s_X16_isName {ra : Nat → Nat} {jx : Nat → Nat → Nat} {rm : Nat} (g : Geo ra jx rm) {σ : Sg} (rσ : Rg ra jx rm σ) (hat : gI σ rm 7 ≤ gI σ rm 6) {Q : Sg → Int → Prop} {X : Sg → String → Prop} (hQ : ∀ (σ' : Sg) (r : Int), Rg ra jx rm σ' → Fr ra jx rm [] [4, 5, 7, 8, 9, 10, 11, 12, 13] σ σ' → ((r = 0 ∨ r = 1) ∧ gI σ' rm 7 ≤ gI σ rm 6) → Q σ' r) (hX : ∀ (σ' : Sg) (E : String), Rg ra jx rm σ' → Fr ra jx rm [] [4, 5, 7, 8, 9, 10, 11, 12, 13] σ σ' → (E = "StreamHouseModel$Fault") → X σ' E) : wp_X16_isName ra jx rm σ Q X := by
  obtain ⟨g1, g2, g3, g4, g5, g6, g7, g8⟩ := id g
  have fσ : Fr ra jx rm [] [4, 5, 7, 8, 9, 10, 11, 12, 13] σ σ := Fr.rf
  unfold wp_X16_isName
  unfold w_X16_isName_0
  try simp only [forall_eq, rII, rIJ, rIP, rJJ, rJI, rJP, rPP, rPI, rPJ, g1, g2, g3, g4, g5, g6, g7, g8, Nat.reduceEqDiff, Nat.reduceAdd, false_and, and_false, true_and, and_true, reduceIte, nZ0, nZ1]
  refine s_X16_see g rσ (by (try simp only [rII, rIJ, rIP, rJJ, rJI, rJP, rPP, rPI, rPJ, g1, g2, g3, g4, g5, g6, g7, g8, Nat.reduceEqDiff, Nat.reduceAdd, false_and, and_false, true_and, and_true, reduceIte, nZ0, nZ1]) <;> (first | omega | with_reducible assumption | (unfold rng; omega) | (unfold rng; (repeat' split) <;> omega) | grind)) (fun σ7 _ rσ7 fc p1 => ?_) (fun σx E rx fx px => hX _ _ rx (Fr.tr fσ (Fr.mor (fx) (by decide) (by decide))) px)
  have fσ7 : Fr ra jx rm [] [4, 5, 7, 8, 9, 10, 11, 12, 13] σ σ7 := Fr.tr fσ (Fr.mor (fc) (by decide) (by decide))
  have sσ7_6 := fσ7.2.1 6 (by decide)
  have jσ7 := fσ7.2.2.1
  try simp only [rII, rIJ, rIP, rJJ, rJI, rJP, rPP, rPI, rPJ, g1, g2, g3, g4, g5, g6, g7, g8, Nat.reduceEqDiff, Nat.reduceAdd, false_and, and_false, true_and, and_true, reduceIte, nZ0, nZ1, sσ7_6.1, sσ7_6.2, fun a k => (jσ7 a k).1, fun a k => (jσ7 a k).2] at p1
  try simp only [forall_eq, rII, rIJ, rIP, rJJ, rJI, rJP, rPP, rPI, rPJ, g1, g2, g3, g4, g5, g6, g7, g8, Nat.reduceEqDiff, Nat.reduceAdd, false_and, and_false, true_and, and_true, reduceIte, nZ0, nZ1, sσ7_6.1, sσ7_6.2, fun a k => (jσ7 a k).1, fun a k => (jσ7 a k).2]
  have q2 := rσ7.2.1 9; simp only [rgS] at q2
  split
  · rename_i hc9
    skip
    unfold w_X16_isName_36
    try simp only [forall_eq, rII, rIJ, rIP, rJJ, rJI, rJP, rPP, rPI, rPJ, g1, g2, g3, g4, g5, g6, g7, g8, Nat.reduceEqDiff, Nat.reduceAdd, false_and, and_false, true_and, and_true, reduceIte, nZ0, nZ1, sσ7_6.1, sσ7_6.2, fun a k => (jσ7 a k).1, fun a k => (jσ7 a k).2]
    unfold w_X16_isName_37
    try simp only [forall_eq, rII, rIJ, rIP, rJJ, rJI, rJP, rPP, rPI, rPJ, g1, g2, g3, g4, g5, g6, g7, g8, Nat.reduceEqDiff, Nat.reduceAdd, false_and, and_false, true_and, and_true, reduceIte, nZ0, nZ1, sσ7_6.1, sσ7_6.2, fun a k => (jσ7 a k).1, fun a k => (jσ7 a k).2]
    refine ⟨by (first | omega | with_reducible assumption | (unfold rng; omega) | (unfold rng; (repeat' split) <;> omega) | grind), ?_⟩
    refine hQ _ _ ?_ ?_ ?_
    · exact rσ7
    · exact fσ7
    · (try simp only [rII, rIJ, rIP, rJJ, rJI, rJP, rPP, rPI, rPJ, g1, g2, g3, g4, g5, g6, g7, g8, Nat.reduceEqDiff, Nat.reduceAdd, false_and, and_false, true_and, and_true, reduceIte, nZ0, nZ1, sσ7_6.1, sσ7_6.2, fun a k => (jσ7 a k).1, fun a k => (jσ7 a k).2]) <;> (first | omega | with_reducible assumption | (unfold rng; omega) | (unfold rng; (repeat' split) <;> omega) | grind)
  · rename_i hc9
    skip
    unfold w_X16_isName_12
    try simp only [forall_eq, rII, rIJ, rIP, rJJ, rJI, rJP, rPP, rPI, rPJ, g1, g2, g3, g4, g5, g6, g7, g8, Nat.reduceEqDiff, Nat.reduceAdd, false_and, and_false, true_and, and_true, reduceIte, nZ0, nZ1, sσ7_6.1, sσ7_6.2, fun a k => (jσ7 a k).1, fun a k => (jσ7 a k).2]
    have q3 := rσ7.2.1 12; simp only [rgS] at q3
    split
    · rename_i hc18
      skip
      unfold w_X16_isName_36
      try simp only [forall_eq, rII, rIJ, rIP, rJJ, rJI, rJP, rPP, rPI, rPJ, g1, g2, g3, g4, g5, g6, g7, g8, Nat.reduceEqDiff, Nat.reduceAdd, false_and, and_false, true_and, and_true, reduceIte, nZ0, nZ1, sσ7_6.1, sσ7_6.2, fun a k => (jσ7 a k).1, fun a k => (jσ7 a k).2]
      unfold w_X16_isName_37
      try simp only [forall_eq, rII, rIJ, rIP, rJJ, rJI, rJP, rPP, rPI, rPJ, g1, g2, g3, g4, g5, g6, g7, g8, Nat.reduceEqDiff, Nat.reduceAdd, false_and, and_false, true_and, and_true, reduceIte, nZ0, nZ1, sσ7_6.1, sσ7_6.2, fun a k => (jσ7 a k).1, fun a k => (jσ7 a k).2]
      refine ⟨by (first | omega | with_reducible assumption | (unfold rng; omega) | (unfold rng; (repeat' split) <;> omega) | grind), ?_⟩
      refine hQ _ _ ?_ ?_ ?_
      · exact rσ7
      · exact fσ7
      · (try simp only [rII, rIJ, rIP, rJJ, rJI, rJP, rPP, rPI, rPJ, g1, g2, g3, g4, g5, g6, g7, g8, Nat.reduceEqDiff, Nat.reduceAdd, false_and, and_false, true_and, and_true, reduceIte, nZ0, nZ1, sσ7_6.1, sσ7_6.2, fun a k => (jσ7 a k).1, fun a k => (jσ7 a k).2]) <;> (first | omega | with_reducible assumption | (unfold rng; omega) | (unfold rng; (repeat' split) <;> omega) | grind)
    · rename_i hc18
      skip
      unfold w_X16_isName_21
      try simp only [forall_eq, rII, rIJ, rIP, rJJ, rJI, rJP, rPP, rPI, rPJ, g1, g2, g3, g4, g5, g6, g7, g8, Nat.reduceEqDiff, Nat.reduceAdd, false_and, and_false, true_and, and_true, reduceIte, nZ0, nZ1, sσ7_6.1, sσ7_6.2, fun a k => (jσ7 a k).1, fun a k => (jσ7 a k).2]
      refine s_X16_isKeyword g rσ7 (fun r9 p4 => ?_)
      try simp only [rII, rIJ, rIP, rJJ, rJI, rJP, rPP, rPI, rPJ, g1, g2, g3, g4, g5, g6, g7, g8, Nat.reduceEqDiff, Nat.reduceAdd, false_and, and_false, true_and, and_true, reduceIte, nZ0, nZ1, sσ7_6.1, sσ7_6.2, fun a k => (jσ7 a k).1, fun a k => (jσ7 a k).2] at p4
      try simp only [forall_eq, rII, rIJ, rIP, rJJ, rJI, rJP, rPP, rPI, rPJ, g1, g2, g3, g4, g5, g6, g7, g8, Nat.reduceEqDiff, Nat.reduceAdd, false_and, and_false, true_and, and_true, reduceIte, nZ0, nZ1, sσ7_6.1, sσ7_6.2, fun a k => (jσ7 a k).1, fun a k => (jσ7 a k).2]
      split
      · rename_i hc29
        skip
        unfold w_X16_isName_36
        try simp only [forall_eq, rII, rIJ, rIP, rJJ, rJI, rJP, rPP, rPI, rPJ, g1, g2, g3, g4, g5, g6, g7, g8, Nat.reduceEqDiff, Nat.reduceAdd, false_and, and_false, true_and, and_true, reduceIte, nZ0, nZ1, sσ7_6.1, sσ7_6.2, fun a k => (jσ7 a k).1, fun a k => (jσ7 a k).2]
        unfold w_X16_isName_37
        try simp only [forall_eq, rII, rIJ, rIP, rJJ, rJI, rJP, rPP, rPI, rPJ, g1, g2, g3, g4, g5, g6, g7, g8, Nat.reduceEqDiff, Nat.reduceAdd, false_and, and_false, true_and, and_true, reduceIte, nZ0, nZ1, sσ7_6.1, sσ7_6.2, fun a k => (jσ7 a k).1, fun a k => (jσ7 a k).2]
        refine ⟨by (first | omega | with_reducible assumption | (unfold rng; omega) | (unfold rng; (repeat' split) <;> omega) | grind), ?_⟩
        refine hQ _ _ ?_ ?_ ?_
        · exact rσ7
        · exact fσ7
        · (try simp only [rII, rIJ, rIP, rJJ, rJI, rJP, rPP, rPI, rPJ, g1, g2, g3, g4, g5, g6, g7, g8, Nat.reduceEqDiff, Nat.reduceAdd, false_and, and_false, true_and, and_true, reduceIte, nZ0, nZ1, sσ7_6.1, sσ7_6.2, fun a k => (jσ7 a k).1, fun a k => (jσ7 a k).2]) <;> (first | omega | with_reducible assumption | (unfold rng; omega) | (unfold rng; (repeat' split) <;> omega) | grind)
      · rename_i hc29
        skip
        unfold w_X16_isName_32
        try simp only [forall_eq, rII, rIJ, rIP, rJJ, rJI, rJP, rPP, rPI, rPJ, g1, g2, g3, g4, g5, g6, g7, g8, Nat.reduceEqDiff, Nat.reduceAdd, false_and, and_false, true_and, and_true, reduceIte, nZ0, nZ1, sσ7_6.1, sσ7_6.2, fun a k => (jσ7 a k).1, fun a k => (jσ7 a k).2]
        unfold w_X16_isName_37
        try simp only [forall_eq, rII, rIJ, rIP, rJJ, rJI, rJP, rPP, rPI, rPJ, g1, g2, g3, g4, g5, g6, g7, g8, Nat.reduceEqDiff, Nat.reduceAdd, false_and, and_false, true_and, and_true, reduceIte, nZ0, nZ1, sσ7_6.1, sσ7_6.2, fun a k => (jσ7 a k).1, fun a k => (jσ7 a k).2]
        refine ⟨by (first | omega | with_reducible assumption | (unfold rng; omega) | (unfold rng; (repeat' split) <;> omega) | grind), ?_⟩
        refine hQ _ _ ?_ ?_ ?_
        · exact rσ7
        · exact fσ7
        · (try simp only [rII, rIJ, rIP, rJJ, rJI, rJP, rPP, rPI, rPJ, g1, g2, g3, g4, g5, g6, g7, g8, Nat.reduceEqDiff, Nat.reduceAdd, false_and, and_false, true_and, and_true, reduceIte, nZ0, nZ1, sσ7_6.1, sσ7_6.2, fun a k => (jσ7 a k).1, fun a k => (jσ7 a k).2]) <;> (first | omega | with_reducible assumption | (unfold rng; omega) | (unfold rng; (repeat' split) <;> omega) | grind)
set_option maxHeartbeats 4000000 in
theorem s_X16_seeName {ra : Nat → Nat} {jx : Nat → Nat → Nat} {rm : Nat} (g : Geo ra jx rm) {σ : Sg} (rσ : Rg ra jx rm σ) (hat : gI σ rm 7 ≤ gI σ rm 6) {Q : Sg → Int64 → Prop} {X : Sg → String → Prop} (hQ : ∀ (σ' : Sg) (r : Int64), Rg ra jx rm σ' → Fr ra jx rm [] [4, 5, 7, 8, 9, 10, 11, 12, 13] σ σ' → (gI σ' rm 7 ≤ gI σ rm 6) → Q σ' r) (hX : ∀ (σ' : Sg) (E : String), Rg ra jx rm σ' → Fr ra jx rm [] [4, 5, 7, 8, 9, 10, 11, 12, 13] σ σ' → (E = "StreamHouseModel$Fault") → X σ' E) : wp_X16_seeName ra jx rm σ Q X := by
  obtain ⟨g1, g2, g3, g4, g5, g6, g7, g8⟩ := id g
  have fσ : Fr ra jx rm [] [4, 5, 7, 8, 9, 10, 11, 12, 13] σ σ := Fr.rf
  unfold wp_X16_seeName
  unfold w_X16_seeName_0
  try simp only [forall_eq, rII, rIJ, rIP, rJJ, rJI, rJP, rPP, rPI, rPJ, g1, g2, g3, g4, g5, g6, g7, g8, Nat.reduceEqDiff, Nat.reduceAdd, false_and, and_false, true_and, and_true, reduceIte, nZ0, nZ1]
  refine s_X16_isName g rσ (by (try simp only [rII, rIJ, rIP, rJJ, rJI, rJP, rPP, rPI, rPJ, g1, g2, g3, g4, g5, g6, g7, g8, Nat.reduceEqDiff, Nat.reduceAdd, false_and, and_false, true_and, and_true, reduceIte, nZ0, nZ1]) <;> (first | omega | with_reducible assumption | (unfold rng; omega) | (unfold rng; (repeat' split) <;> omega) | grind)) (fun σ9 r10 rσ9 fc p1 => ?_) (fun σx E rx fx px => hX _ _ rx (Fr.tr fσ (Fr.mor (fx) (by decide) (by decide))) px)
  have fσ9 : Fr ra jx rm [] [4, 5, 7, 8, 9, 10, 11, 12, 13] σ σ9 := Fr.tr fσ (Fr.mor (fc) (by decide) (by decide))
  have sσ9_6 := fσ9.2.1 6 (by decide)
  have jσ9 := fσ9.2.2.1
  try simp only [rII, rIJ, rIP, rJJ, rJI, rJP, rPP, rPI, rPJ, g1, g2, g3, g4, g5, g6, g7, g8, Nat.reduceEqDiff, Nat.reduceAdd, false_and, and_false, true_and, and_true, reduceIte, nZ0, nZ1, sσ9_6.1, sσ9_6.2, fun a k => (jσ9 a k).1, fun a k => (jσ9 a k).2] at p1
  try simp only [forall_eq, rII, rIJ, rIP, rJJ, rJI, rJP, rPP, rPI, rPJ, g1, g2, g3, g4, g5, g6, g7, g8, Nat.reduceEqDiff, Nat.reduceAdd, false_and, and_false, true_and, and_true, reduceIte, nZ0, nZ1, sσ9_6.1, sσ9_6.2, fun a k => (jσ9 a k).1, fun a k => (jσ9 a k).2]
  split
  · rename_i hc4
    skip
    unfold w_X16_seeName_12
    try simp only [forall_eq, rII, rIJ, rIP, rJJ, rJI, rJP, rPP, rPI, rPJ, g1, g2, g3, g4, g5, g6, g7, g8, Nat.reduceEqDiff, Nat.reduceAdd, false_and, and_false, true_and, and_true, reduceIte, nZ0, nZ1, sσ9_6.1, sσ9_6.2, fun a k => (jσ9 a k).1, fun a k => (jσ9 a k).2]
    refine hQ _ _ ?_ ?_ ?_
    · exact rσ9
    · exact fσ9
    · (try simp only [rII, rIJ, rIP, rJJ, rJI, rJP, rPP, rPI, rPJ, g1, g2, g3, g4, g5, g6, g7, g8, Nat.reduceEqDiff, Nat.reduceAdd, false_and, and_false, true_and, and_true, reduceIte, nZ0, nZ1, sσ9_6.1, sσ9_6.2, fun a k => (jσ9 a k).1, fun a k => (jσ9 a k).2]) <;> (first | omega | with_reducible assumption | (unfold rng; omega) | (unfold rng; (repeat' split) <;> omega) | grind)
  · rename_i hc4
    skip
    unfold w_X16_seeName_7
    try simp only [forall_eq, rII, rIJ, rIP, rJJ, rJI, rJP, rPP, rPI, rPJ, g1, g2, g3, g4, g5, g6, g7, g8, Nat.reduceEqDiff, Nat.reduceAdd, false_and, and_false, true_and, and_true, reduceIte, nZ0, nZ1, sσ9_6.1, sσ9_6.2, fun a k => (jσ9 a k).1, fun a k => (jσ9 a k).2]
    refine s_X16_misplaced g rσ9 (fun σ11 r12 rσ11 fc p2 => ?_)
    have fσ11 : Fr ra jx rm [] [4, 5, 7, 8, 9, 10, 11, 12, 13] σ σ11 := Fr.tr fσ9 (Fr.mor (fc) (by decide) (by decide))
    have cσ11_7 := fc.2.1 7 (by decide)
    have cσ11_11 := fc.2.1 11 (by decide)
    have sσ11_6 := fσ11.2.1 6 (by decide)
    have jσ11 := fσ11.2.2.1
    try simp only [rII, rIJ, rIP, rJJ, rJI, rJP, rPP, rPI, rPJ, g1, g2, g3, g4, g5, g6, g7, g8, Nat.reduceEqDiff, Nat.reduceAdd, false_and, and_false, true_and, and_true, reduceIte, nZ0, nZ1, sσ11_6.1, sσ11_6.2, fun a k => (jσ11 a k).1, fun a k => (jσ11 a k).2, cσ11_7.1, cσ11_7.2, cσ11_11.1, cσ11_11.2] at p2
    try simp only [forall_eq, rII, rIJ, rIP, rJJ, rJI, rJP, rPP, rPI, rPJ, g1, g2, g3, g4, g5, g6, g7, g8, Nat.reduceEqDiff, Nat.reduceAdd, false_and, and_false, true_and, and_true, reduceIte, nZ0, nZ1, sσ11_6.1, sσ11_6.2, fun a k => (jσ11 a k).1, fun a k => (jσ11 a k).2, cσ11_7.1, cσ11_7.2, cσ11_11.1, cσ11_11.2]
    refine ⟨by first | assumption | simp, ?_⟩
    refine hX _ _ ?_ ?_ ?_
    · exact rσ11
    · exact fσ11
    · exact rfl
set_option maxHeartbeats 4000000 in
theorem s_X16_sign {ra : Nat → Nat} {jx : Nat → Nat → Nat} {rm : Nat} (g : Geo ra jx rm) {σ : Sg} {v1 : Int} (rσ : Rg ra jx rm σ) (hat : gI σ rm 7 ≤ gI σ rm 6) (b1 : -2147483648 ≤ v1 ∧ v1 ≤ 2147483647) {Q : Sg → Unit → Prop} {X : Sg → String → Prop} (hQ : ∀ (σ' : Sg) (r : Unit), Rg ra jx rm σ' → Fr ra jx rm [] [4, 5, 7, 8, 9, 10, 11, 12, 13] σ σ' → (gI σ' rm 7 ≤ gI σ rm 6) → Q σ' r) (hX : ∀ (σ' : Sg) (E : String), Rg ra jx rm σ' → Fr ra jx rm [] [4, 5, 7, 8, 9, 10, 11, 12, 13] σ σ' → (E = "StreamHouseModel$Fault") → X σ' E) : wp_X16_sign ra jx rm v1 σ Q X := by
  obtain ⟨g1, g2, g3, g4, g5, g6, g7, g8⟩ := id g
  have fσ : Fr ra jx rm [] [4, 5, 7, 8, 9, 10, 11, 12, 13] σ σ := Fr.rf
  unfold wp_X16_sign
  unfold w_X16_sign_0
  try simp only [forall_eq, rII, rIJ, rIP, rJJ, rJI, rJP, rPP, rPI, rPJ, g1, g2, g3, g4, g5, g6, g7, g8, Nat.reduceEqDiff, Nat.reduceAdd, false_and, and_false, true_and, and_true, reduceIte, nZ0, nZ1]
  refine s_X16_see g rσ (by (try simp only [rII, rIJ, rIP, rJJ, rJI, rJP, rPP, rPI, rPJ, g1, g2, g3, g4, g5, g6, g7, g8, Nat.reduceEqDiff, Nat.reduceAdd, false_and, and_false, true_and, and_true, reduceIte, nZ0, nZ1]) <;> (first | omega | with_reducible assumption | (unfold rng; omega) | (unfold rng; (repeat' split) <;> omega) | grind)) (fun σ9 _ rσ9 fc p1 => ?_) (fun σx E rx fx px => hX _ _ rx (Fr.tr fσ (Fr.mor (fx) (by decide) (by decide))) px)
  have fσ9 : Fr ra jx rm [] [4, 5, 7, 8, 9, 10, 11, 12, 13] σ σ9 := Fr.tr fσ (Fr.mor (fc) (by decide) (by decide))
  have sσ9_6 := fσ9.2.1 6 (by decide)
  have jσ9 := fσ9.2.2.1
  try simp only [rII, rIJ, rIP, rJJ, rJI, rJP, rPP, rPI, rPJ, g1, g2, g3, g4, g5, g6, g7, g8, Nat.reduceEqDiff, Nat.reduceAdd, false_and, and_false, true_and, and_true, reduceIte, nZ0, nZ1, sσ9_6.1, sσ9_6.2, fun a k => (jσ9 a k).1, fun a k => (jσ9 a k).2] at p1
  try simp only [forall_eq, rII, rIJ, rIP, rJJ, rJI, rJP, rPP, rPI, rPJ, g1, g2, g3, g4, g5, g6, g7, g8, Nat.reduceEqDiff, Nat.reduceAdd, false_and, and_false, true_and, and_true, reduceIte, nZ0, nZ1, sσ9_6.1, sσ9_6.2, fun a k => (jσ9 a k).1, fun a k => (jσ9 a k).2]
  have q2 := rσ9.2.1 9; simp only [rgS] at q2
  split
  · rename_i hc9
    skip
    unfold w_X16_sign_17
    try simp only [forall_eq, rII, rIJ, rIP, rJJ, rJI, rJP, rPP, rPI, rPJ, g1, g2, g3, g4, g5, g6, g7, g8, Nat.reduceEqDiff, Nat.reduceAdd, false_and, and_false, true_and, and_true, reduceIte, nZ0, nZ1, sσ9_6.1, sσ9_6.2, fun a k => (jσ9 a k).1, fun a k => (jσ9 a k).2]
    refine s_X16_take g rσ9 (fun σ10 _ rσ10 fc p3 => ?_)
    have fσ10 : Fr ra jx rm [] [4, 5, 7, 8, 9, 10, 11, 12, 13] σ σ10 := Fr.tr fσ9 (Fr.mor (fc) (by decide) (by decide))
    have cσ10_7 := fc.2.1 7 (by decide)
    have cσ10_9 := fc.2.1 9 (by decide)
    have sσ10_6 := fσ10.2.1 6 (by decide)
    have jσ10 := fσ10.2.2.1
    try simp only [rII, rIJ, rIP, rJJ, rJI, rJP, rPP, rPI, rPJ, g1, g2, g3, g4, g5, g6, g7, g8, Nat.reduceEqDiff, Nat.reduceAdd, false_and, and_false, true_and, and_true, reduceIte, nZ0, nZ1, sσ10_6.1, sσ10_6.2, fun a k => (jσ10 a k).1, fun a k => (jσ10 a k).2, cσ10_7.1, cσ10_7.2, cσ10_9.1, cσ10_9.2] at p3
    try simp only [forall_eq, rII, rIJ, rIP, rJJ, rJI, rJP, rPP, rPI, rPJ, g1, g2, g3, g4, g5, g6, g7, g8, Nat.reduceEqDiff, Nat.reduceAdd, false_and, and_false, true_and, and_true, reduceIte, nZ0, nZ1, sσ10_6.1, sσ10_6.2, fun a k => (jσ10 a k).1, fun a k => (jσ10 a k).2, cσ10_7.1, cσ10_7.2, cσ10_9.1, cσ10_9.2]
    refine hQ _ _ ?_ ?_ ?_
    · exact rσ10
    · exact fσ10
    · (try simp only [rII, rIJ, rIP, rJJ, rJI, rJP, rPP, rPI, rPJ, g1, g2, g3, g4, g5, g6, g7, g8, Nat.reduceEqDiff, Nat.reduceAdd, false_and, and_false, true_and, and_true, reduceIte, nZ0, nZ1, sσ10_6.1, sσ10_6.2, fun a k => (jσ10 a k).1, fun a k => (jσ10 a k).2, cσ10_7.1, cσ10_7.2, cσ10_9.1, cσ10_9.2]) <;> (first | omega | with_reducible assumption | (unfold rng; omega) | (unfold rng; (repeat' split) <;> omega) | grind)
  · rename_i hc9
    skip
    unfold w_X16_sign_12
    try simp only [forall_eq, rII, rIJ, rIP, rJJ, rJI, rJP, rPP, rPI, rPJ, g1, g2, g3, g4, g5, g6, g7, g8, Nat.reduceEqDiff, Nat.reduceAdd, false_and, and_false, true_and, and_true, reduceIte, nZ0, nZ1, sσ9_6.1, sσ9_6.2, fun a k => (jσ9 a k).1, fun a k => (jσ9 a k).2]
    refine s_X16_misplaced g rσ9 (fun σ11 r12 rσ11 fc p4 => ?_)
    have fσ11 : Fr ra jx rm [] [4, 5, 7, 8, 9, 10, 11, 12, 13] σ σ11 := Fr.tr fσ9 (Fr.mor (fc) (by decide) (by decide))
    have cσ11_7 := fc.2.1 7 (by decide)
    have cσ11_9 := fc.2.1 9 (by decide)
    have sσ11_6 := fσ11.2.1 6 (by decide)
    have jσ11 := fσ11.2.2.1
    try simp only [rII, rIJ, rIP, rJJ, rJI, rJP, rPP, rPI, rPJ, g1, g2, g3, g4, g5, g6, g7, g8, Nat.reduceEqDiff, Nat.reduceAdd, false_and, and_false, true_and, and_true, reduceIte, nZ0, nZ1, sσ11_6.1, sσ11_6.2, fun a k => (jσ11 a k).1, fun a k => (jσ11 a k).2, cσ11_7.1, cσ11_7.2, cσ11_9.1, cσ11_9.2] at p4
    try simp only [forall_eq, rII, rIJ, rIP, rJJ, rJI, rJP, rPP, rPI, rPJ, g1, g2, g3, g4, g5, g6, g7, g8, Nat.reduceEqDiff, Nat.reduceAdd, false_and, and_false, true_and, and_true, reduceIte, nZ0, nZ1, sσ11_6.1, sσ11_6.2, fun a k => (jσ11 a k).1, fun a k => (jσ11 a k).2, cσ11_7.1, cσ11_7.2, cσ11_9.1, cσ11_9.2]
    refine ⟨by first | assumption | simp, ?_⟩
    refine hX _ _ ?_ ?_ ?_
    · exact rσ11
    · exact fσ11
    · exact rfl
set_option maxHeartbeats 4000000 in
theorem s_X16_keyword {ra : Nat → Nat} {jx : Nat → Nat → Nat} {rm : Nat} (g : Geo ra jx rm) {σ : Sg} {v1 : Nat} (rσ : Rg ra jx rm σ) (hat : gI σ rm 7 ≤ gI σ rm 6) {Q : Sg → Unit → Prop} {X : Sg → String → Prop} (hQ : ∀ (σ' : Sg) (r : Unit), Rg ra jx rm σ' → Fr ra jx rm [] [4, 5, 7, 8, 9, 10, 11, 12, 13] σ σ' → (gI σ' rm 7 ≤ gI σ rm 6) → Q σ' r) (hX : ∀ (σ' : Sg) (E : String), Rg ra jx rm σ' → Fr ra jx rm [] [4, 5, 7, 8, 9, 10, 11, 12, 13] σ σ' → (E = "StreamHouseModel$Fault") → X σ' E) : wp_X16_keyword ra jx rm v1 σ Q X := by
  obtain ⟨g1, g2, g3, g4, g5, g6, g7, g8⟩ := id g
  have fσ : Fr ra jx rm [] [4, 5, 7, 8, 9, 10, 11, 12, 13] σ σ := Fr.rf
  unfold wp_X16_keyword
  unfold w_X16_keyword_0
  try simp only [forall_eq, rII, rIJ, rIP, rJJ, rJI, rJP, rPP, rPI, rPJ, g1, g2, g3, g4, g5, g6, g7, g8, Nat.reduceEqDiff, Nat.reduceAdd, false_and, and_false, true_and, and_true, reduceIte, nZ0, nZ1]
  refine s_X16_isWord g rσ (by (try simp only [rII, rIJ, rIP, rJJ, rJI, rJP, rPP, rPI, rPJ, g1, g2, g3, g4, g5, g6, g7, g8, Nat.reduceEqDiff, Nat.reduceAdd, false_and, and_false, true_and, and_true, reduceIte, nZ0, nZ1]) <;> (first | omega | with_reducible assumption | (unfold rng; omega) | (unfold rng; (repeat' split) <;> omega) | grind)) (fun σ11 r12 rσ11 fc p1 => ?_) (fun σx E rx fx px => hX _ _ rx (Fr.tr fσ (Fr.mor (fx) (by decide) (by decide))) px)
  have fσ11 : Fr ra jx rm [] [4, 5, 7, 8, 9, 10, 11, 12, 13] σ σ11 := Fr.tr fσ (Fr.mor (fc) (by decide) (by decide))
  have sσ11_6 := fσ11.2.1 6 (by decide)
  have jσ11 := fσ11.2.2.1
  try simp only [rII, rIJ, rIP, rJJ, rJI, rJP, rPP, rPI, rPJ, g1, g2, g3, g4, g5, g6, g7, g8, Nat.reduceEqDiff, Nat.reduceAdd, false_and, and_false, true_and, and_true, reduceIte, nZ0, nZ1, sσ11_6.1, sσ11_6.2, fun a k => (jσ11 a k).1, fun a k => (jσ11 a k).2] at p1
  try simp only [forall_eq, rII, rIJ, rIP, rJJ, rJI, rJP, rPP, rPI, rPJ, g1, g2, g3, g4, g5, g6, g7, g8, Nat.reduceEqDiff, Nat.reduceAdd, false_and, and_false, true_and, and_true, reduceIte, nZ0, nZ1, sσ11_6.1, sσ11_6.2, fun a k => (jσ11 a k).1, fun a k => (jσ11 a k).2]
  split
  · rename_i hc5
    skip
    unfold w_X16_keyword_13
    try simp only [forall_eq, rII, rIJ, rIP, rJJ, rJI, rJP, rPP, rPI, rPJ, g1, g2, g3, g4, g5, g6, g7, g8, Nat.reduceEqDiff, Nat.reduceAdd, false_and, and_false, true_and, and_true, reduceIte, nZ0, nZ1, sσ11_6.1, sσ11_6.2, fun a k => (jσ11 a k).1, fun a k => (jσ11 a k).2]
    refine s_X16_take g rσ11 (fun σ13 _ rσ13 fc p2 => ?_)
    have fσ13 : Fr ra jx rm [] [4, 5, 7, 8, 9, 10, 11, 12, 13] σ σ13 := Fr.tr fσ11 (Fr.mor (fc) (by decide) (by decide))
    have cσ13_7 := fc.2.1 7 (by decide)
    have sσ13_6 := fσ13.2.1 6 (by decide)
    have jσ13 := fσ13.2.2.1
    try simp only [rII, rIJ, rIP, rJJ, rJI, rJP, rPP, rPI, rPJ, g1, g2, g3, g4, g5, g6, g7, g8, Nat.reduceEqDiff, Nat.reduceAdd, false_and, and_false, true_and, and_true, reduceIte, nZ0, nZ1, sσ13_6.1, sσ13_6.2, fun a k => (jσ13 a k).1, fun a k => (jσ13 a k).2, cσ13_7.1, cσ13_7.2] at p2
    try simp only [forall_eq, rII, rIJ, rIP, rJJ, rJI, rJP, rPP, rPI, rPJ, g1, g2, g3, g4, g5, g6, g7, g8, Nat.reduceEqDiff, Nat.reduceAdd, false_and, and_false, true_and, and_true, reduceIte, nZ0, nZ1, sσ13_6.1, sσ13_6.2, fun a k => (jσ13 a k).1, fun a k => (jσ13 a k).2, cσ13_7.1, cσ13_7.2]
    refine hQ _ _ ?_ ?_ ?_
    · exact rσ13
    · exact fσ13
    · (try simp only [rII, rIJ, rIP, rJJ, rJI, rJP, rPP, rPI, rPJ, g1, g2, g3, g4, g5, g6, g7, g8, Nat.reduceEqDiff, Nat.reduceAdd, false_and, and_false, true_and, and_true, reduceIte, nZ0, nZ1, sσ13_6.1, sσ13_6.2, fun a k => (jσ13 a k).1, fun a k => (jσ13 a k).2, cσ13_7.1, cσ13_7.2]) <;> (first | omega | with_reducible assumption | (unfold rng; omega) | (unfold rng; (repeat' split) <;> omega) | grind)
  · rename_i hc5
    skip
    unfold w_X16_keyword_8
    try simp only [forall_eq, rII, rIJ, rIP, rJJ, rJI, rJP, rPP, rPI, rPJ, g1, g2, g3, g4, g5, g6, g7, g8, Nat.reduceEqDiff, Nat.reduceAdd, false_and, and_false, true_and, and_true, reduceIte, nZ0, nZ1, sσ11_6.1, sσ11_6.2, fun a k => (jσ11 a k).1, fun a k => (jσ11 a k).2]
    refine s_X16_misplaced g rσ11 (fun σ14 r15 rσ14 fc p3 => ?_)
    have fσ14 : Fr ra jx rm [] [4, 5, 7, 8, 9, 10, 11, 12, 13] σ σ14 := Fr.tr fσ11 (Fr.mor (fc) (by decide) (by decide))
    have cσ14_7 := fc.2.1 7 (by decide)
    have sσ14_6 := fσ14.2.1 6 (by decide)
    have jσ14 := fσ14.2.2.1
    try simp only [rII, rIJ, rIP, rJJ, rJI, rJP, rPP, rPI, rPJ, g1, g2, g3, g4, g5, g6, g7, g8, Nat.reduceEqDiff, Nat.reduceAdd, false_and, and_false, true_and, and_true, reduceIte, nZ0, nZ1, sσ14_6.1, sσ14_6.2, fun a k => (jσ14 a k).1, fun a k => (jσ14 a k).2, cσ14_7.1, cσ14_7.2] at p3
    try simp only [forall_eq, rII, rIJ, rIP, rJJ, rJI, rJP, rPP, rPI, rPJ, g1, g2, g3, g4, g5, g6, g7, g8, Nat.reduceEqDiff, Nat.reduceAdd, false_and, and_false, true_and, and_true, reduceIte, nZ0, nZ1, sσ14_6.1, sσ14_6.2, fun a k => (jσ14 a k).1, fun a k => (jσ14 a k).2, cσ14_7.1, cσ14_7.2]
    refine ⟨by first | assumption | simp, ?_⟩
    refine hX _ _ ?_ ?_ ?_
    · exact rσ14
    · exact fσ14
    · exact rfl
set_option maxHeartbeats 4000000 in
theorem s_X16_opens {ra : Nat → Nat} {jx : Nat → Nat → Nat} {rm : Nat} (g : Geo ra jx rm) {σ : Sg} (rσ : Rg ra jx rm σ) (hat : gI σ rm 7 ≤ gI σ rm 6) {Q : Sg → Unit → Prop} {X : Sg → String → Prop} (hQ : ∀ (σ' : Sg) (r : Unit), Rg ra jx rm σ' → Fr ra jx rm [] [4, 5, 8, 19] σ σ' → (gI σ' rm 7 ≤ gI σ rm 6 ∧ gI σ' rm 19 = gI σ rm 19 + 1 ∧ gI σ rm 19 < 10) → Q σ' r) (hX : ∀ (σ' : Sg) (E : String), Rg ra jx rm σ' → Fr ra jx rm [] [4, 5, 8, 19] σ σ' → (E = "StreamHouseModel$Fault") → X σ' E) : wp_X16_opens ra jx rm σ Q X := by
  obtain ⟨g1, g2, g3, g4, g5, g6, g7, g8⟩ := id g
  have fσ : Fr ra jx rm [] [4, 5, 8, 19] σ σ := Fr.rf
  unfold wp_X16_opens
  unfold w_X16_opens_0
  try simp only [forall_eq, rII, rIJ, rIP, rJJ, rJI, rJP, rPP, rPI, rPJ, g1, g2, g3, g4, g5, g6, g7, g8, Nat.reduceEqDiff, Nat.reduceAdd, false_and, and_false, true_and, and_true, reduceIte, nZ0, nZ1]
  have q1 := rσ.2.1 19; simp only [rgS] at q1
  split
  · rename_i hc6
    skip
    unfold w_X16_opens_16
    try simp only [forall_eq, rII, rIJ, rIP, rJJ, rJI, rJP, rPP, rPI, rPJ, g1, g2, g3, g4, g5, g6, g7, g8, Nat.reduceEqDiff, Nat.reduceAdd, false_and, and_false, true_and, and_true, reduceIte, nZ0, nZ1]
    refine ⟨by (first | omega | with_reducible assumption | (unfold rng; omega) | (unfold rng; (repeat' split) <;> omega) | grind), ?_⟩
    refine s_X16_take g (by refine Rg.sI g ?_ (by simp only [rgS]; first | with_reducible exact nZ_rng _ | with_reducible exact nB_rng _ | with_reducible exact wr_rng _ | with_reducible exact i32any _ | (first | omega | with_reducible assumption | (unfold rng; omega) | (unfold rng; (repeat' split) <;> omega) | grind)); exact rσ) (fun σ10 _ rσ10 fc p2 => ?_)
    have fσ10 : Fr ra jx rm [] [4, 5, 8, 19] σ σ10 := Fr.tr (by refine Fr.sI g ?_ (by decide); exact fσ) (Fr.mor (fc) (by decide) (by decide))
    have cσ10_19 := fc.2.1 19 (by decide)
    have sσ10_6 := fσ10.2.1 6 (by decide)
    have sσ10_7 := fσ10.2.1 7 (by decide)
    have jσ10 := fσ10.2.2.1
    try simp only [rII, rIJ, rIP, rJJ, rJI, rJP, rPP, rPI, rPJ, g1, g2, g3, g4, g5, g6, g7, g8, Nat.reduceEqDiff, Nat.reduceAdd, false_and, and_false, true_and, and_true, reduceIte, nZ0, nZ1, sσ10_6.1, sσ10_6.2, sσ10_7.1, sσ10_7.2, fun a k => (jσ10 a k).1, fun a k => (jσ10 a k).2, cσ10_19.1, cσ10_19.2] at p2
    try simp only [forall_eq, rII, rIJ, rIP, rJJ, rJI, rJP, rPP, rPI, rPJ, g1, g2, g3, g4, g5, g6, g7, g8, Nat.reduceEqDiff, Nat.reduceAdd, false_and, and_false, true_and, and_true, reduceIte, nZ0, nZ1, sσ10_6.1, sσ10_6.2, sσ10_7.1, sσ10_7.2, fun a k => (jσ10 a k).1, fun a k => (jσ10 a k).2, cσ10_19.1, cσ10_19.2]
    refine hQ _ _ ?_ ?_ ?_
    · exact rσ10
    · exact fσ10
    · (try simp only [rII, rIJ, rIP, rJJ, rJI, rJP, rPP, rPI, rPJ, g1, g2, g3, g4, g5, g6, g7, g8, Nat.reduceEqDiff, Nat.reduceAdd, false_and, and_false, true_and, and_true, reduceIte, nZ0, nZ1, sσ10_6.1, sσ10_6.2, sσ10_7.1, sσ10_7.2, fun a k => (jσ10 a k).1, fun a k => (jσ10 a k).2, cσ10_19.1, cσ10_19.2]) <;> (first | omega | with_reducible assumption | (unfold rng; omega) | (unfold rng; (repeat' split) <;> omega) | grind)
  · rename_i hc6
    skip
    unfold w_X16_opens_9
    try simp only [forall_eq, rII, rIJ, rIP, rJJ, rJI, rJP, rPP, rPI, rPJ, g1, g2, g3, g4, g5, g6, g7, g8, Nat.reduceEqDiff, Nat.reduceAdd, false_and, and_false, true_and, and_true, reduceIte, nZ0, nZ1]
    refine s_X16_fail g rσ (by (try simp only [rII, rIJ, rIP, rJJ, rJI, rJP, rPP, rPI, rPJ, g1, g2, g3, g4, g5, g6, g7, g8, Nat.reduceEqDiff, Nat.reduceAdd, false_and, and_false, true_and, and_true, reduceIte, nZ0, nZ1]) <;> (first | omega | with_reducible assumption | (unfold rng; omega) | (unfold rng; (repeat' split) <;> omega) | grind)) (fun σ11 r12 rσ11 fc p3 => ?_)
    have fσ11 : Fr ra jx rm [] [4, 5, 8, 19] σ σ11 := Fr.tr fσ (Fr.mor (fc) (by decide) (by decide))
    have cσ11_19 := fc.2.1 19 (by decide)
    have sσ11_6 := fσ11.2.1 6 (by decide)
    have sσ11_7 := fσ11.2.1 7 (by decide)
    have jσ11 := fσ11.2.2.1
    try simp only [rII, rIJ, rIP, rJJ, rJI, rJP, rPP, rPI, rPJ, g1, g2, g3, g4, g5, g6, g7, g8, Nat.reduceEqDiff, Nat.reduceAdd, false_and, and_false, true_and, and_true, reduceIte, nZ0, nZ1, sσ11_6.1, sσ11_6.2, sσ11_7.1, sσ11_7.2, fun a k => (jσ11 a k).1, fun a k => (jσ11 a k).2, cσ11_19.1, cσ11_19.2] at p3
    try simp only [forall_eq, rII, rIJ, rIP, rJJ, rJI, rJP, rPP, rPI, rPJ, g1, g2, g3, g4, g5, g6, g7, g8, Nat.reduceEqDiff, Nat.reduceAdd, false_and, and_false, true_and, and_true, reduceIte, nZ0, nZ1, sσ11_6.1, sσ11_6.2, sσ11_7.1, sσ11_7.2, fun a k => (jσ11 a k).1, fun a k => (jσ11 a k).2, cσ11_19.1, cσ11_19.2]
    refine ⟨by first | assumption | simp, ?_⟩
    refine hX _ _ ?_ ?_ ?_
    · exact rσ11
    · exact fσ11
    · exact rfl
set_option maxHeartbeats 4000000 in
theorem s_X16_bounded {ra : Nat → Nat} {jx : Nat → Nat → Nat} {rm : Nat} (g : Geo ra jx rm) {σ : Sg} {v1 : Int64} {v3 : Int64} (rσ : Rg ra jx rm σ) (hat : gI σ rm 7 ≤ gI σ rm 6) {Q : Sg → Int64 → Prop} {X : Sg → String → Prop} (hQ : ∀ (σ' : Sg) (r : Int64), Rg ra jx rm σ' → Fr ra jx rm [] [4, 5, 7, 8, 9, 10, 11, 12, 13] σ σ' → (gI σ' rm 7 ≤ gI σ rm 6 ∧ v1 ≤ r ∧ r ≤ v3) → Q σ' r) (hX : ∀ (σ' : Sg) (E : String), Rg ra jx rm σ' → Fr ra jx rm [] [4, 5, 7, 8, 9, 10, 11, 12, 13] σ σ' → (E = "StreamHouseModel$Fault") → X σ' E) : wp_X16_bounded ra jx rm v1 v3 σ Q X := by
  obtain ⟨g1, g2, g3, g4, g5, g6, g7, g8⟩ := id g
  have fσ : Fr ra jx rm [] [4, 5, 7, 8, 9, 10, 11, 12, 13] σ σ := Fr.rf
  unfold wp_X16_bounded
  unfold w_X16_bounded_0
  try simp only [forall_eq, rII, rIJ, rIP, rJJ, rJI, rJP, rPP, rPI, rPJ, g1, g2, g3, g4, g5, g6, g7, g8, Nat.reduceEqDiff, Nat.reduceAdd, false_and, and_false, true_and, and_true, reduceIte, nZ0, nZ1]
  refine s_X16_see g rσ (by (try simp only [rII, rIJ, rIP, rJJ, rJI, rJP, rPP, rPI, rPJ, g1, g2, g3, g4, g5, g6, g7, g8, Nat.reduceEqDiff, Nat.reduceAdd, false_and, and_false, true_and, and_true, reduceIte, nZ0, nZ1]) <;> (first | omega | with_reducible assumption | (unfold rng; omega) | (unfold rng; (repeat' split) <;> omega) | grind)) (fun σ17 _ rσ17 fc p1 => ?_) (fun σx E rx fx px => hX _ _ rx (Fr.tr fσ (Fr.mor (fx) (by decide) (by decide))) px)
  have fσ17 : Fr ra jx rm [] [4, 5, 7, 8, 9, 10, 11, 12, 13] σ σ17 := Fr.tr fσ (Fr.mor (fc) (by decide) (by decide))
  have sσ17_6 := fσ17.2.1 6 (by decide)
  have jσ17 := fσ17.2.2.1
  try simp only [rII, rIJ, rIP, rJJ, rJI, rJP, rPP, rPI, rPJ, g1, g2, g3, g4, g5, g6, g7, g8, Nat.reduceEqDiff, Nat.reduceAdd, false_and, and_false, true_and, and_true, reduceIte, nZ0, nZ1, sσ17_6.1, sσ17_6.2, fun a k => (jσ17 a k).1, fun a k => (jσ17 a k).2] at p1
  try simp only [forall_eq, rII, rIJ, rIP, rJJ, rJI, rJP, rPP, rPI, rPJ, g1, g2, g3, g4, g5, g6, g7, g8, Nat.reduceEqDiff, Nat.reduceAdd, false_and, and_false, true_and, and_true, reduceIte, nZ0, nZ1, sσ17_6.1, sσ17_6.2, fun a k => (jσ17 a k).1, fun a k => (jσ17 a k).2]
  have q2 := rσ17.2.1 9; simp only [rgS] at q2
  split
  · rename_i hc9
    skip
    unfold w_X16_bounded_17
    try simp only [forall_eq, rII, rIJ, rIP, rJJ, rJI, rJP, rPP, rPI, rPJ, g1, g2, g3, g4, g5, g6, g7, g8, Nat.reduceEqDiff, Nat.reduceAdd, false_and, and_false, true_and, and_true, reduceIte, nZ0, nZ1, sσ17_6.1, sσ17_6.2, fun a k => (jσ17 a k).1, fun a k => (jσ17 a k).2]
    refine s_X16_within g rσ17 (fun r19 p3 => ?_)
    obtain ⟨p3, p3b⟩ := p3
    try simp only [rII, rIJ, rIP, rJJ, rJI, rJP, rPP, rPI, rPJ, g1, g2, g3, g4, g5, g6, g7, g8, Nat.reduceEqDiff, Nat.reduceAdd, false_and, and_false, true_and, and_true, reduceIte, nZ0, nZ1, sσ17_6.1, sσ17_6.2, fun a k => (jσ17 a k).1, fun a k => (jσ17 a k).2] at p3
    try simp only [forall_eq, rII, rIJ, rIP, rJJ, rJI, rJP, rPP, rPI, rPJ, g1, g2, g3, g4, g5, g6, g7, g8, Nat.reduceEqDiff, Nat.reduceAdd, false_and, and_false, true_and, and_true, reduceIte, nZ0, nZ1, sσ17_6.1, sσ17_6.2, fun a k => (jσ17 a k).1, fun a k => (jσ17 a k).2]
    split
    · rename_i hc26
      skip
      unfold w_X16_bounded_36
      try simp only [forall_eq, rII, rIJ, rIP, rJJ, rJI, rJP, rPP, rPI, rPJ, g1, g2, g3, g4, g5, g6, g7, g8, Nat.reduceEqDiff, Nat.reduceAdd, false_and, and_false, true_and, and_true, reduceIte, nZ0, nZ1, sσ17_6.1, sσ17_6.2, fun a k => (jσ17 a k).1, fun a k => (jσ17 a k).2]
      refine s_X16_take g rσ17 (fun σ20 _ rσ20 fc p4 => ?_)
      have fσ20 : Fr ra jx rm [] [4, 5, 7, 8, 9, 10, 11, 12, 13] σ σ20 := Fr.tr fσ17 (Fr.mor (fc) (by decide) (by decide))
      have cσ20_7 := fc.2.1 7 (by decide)
      have cσ20_9 := fc.2.1 9 (by decide)
      have cσ20_13 := fc.2.1 13 (by decide)
      have sσ20_6 := fσ20.2.1 6 (by decide)
      have jσ20 := fσ20.2.2.1
      try simp only [rII, rIJ, rIP, rJJ, rJI, rJP, rPP, rPI, rPJ, g1, g2, g3, g4, g5, g6, g7, g8, Nat.reduceEqDiff, Nat.reduceAdd, false_and, and_false, true_and, and_true, reduceIte, nZ0, nZ1, sσ20_6.1, sσ20_6.2, fun a k => (jσ20 a k).1, fun a k => (jσ20 a k).2, cσ20_7.1, cσ20_7.2, cσ20_9.1, cσ20_9.2, cσ20_13.1, cσ20_13.2] at p4
      try simp only [forall_eq, rII, rIJ, rIP, rJJ, rJI, rJP, rPP, rPI, rPJ, g1, g2, g3, g4, g5, g6, g7, g8, Nat.reduceEqDiff, Nat.reduceAdd, false_and, and_false, true_and, and_true, reduceIte, nZ0, nZ1, sσ20_6.1, sσ20_6.2, fun a k => (jσ20 a k).1, fun a k => (jσ20 a k).2, cσ20_7.1, cσ20_7.2, cσ20_9.1, cσ20_9.2, cσ20_13.1, cσ20_13.2]
      refine hQ _ _ ?_ ?_ ?_
      · exact rσ20
      · exact fσ20
      · refine ⟨?_, ?_, ?_⟩ <;> (try simp only [rII, rIJ, rIP, rJJ, rJI, rJP, rPP, rPI, rPJ, g1, g2, g3, g4, g5, g6, g7, g8, Nat.reduceEqDiff, Nat.reduceAdd, false_and, and_false, true_and, and_true, reduceIte, nZ0, nZ1, sσ20_6.1, sσ20_6.2, fun a k => (jσ20 a k).1, fun a k => (jσ20 a k).2, cσ20_7.1, cσ20_7.2, cσ20_9.1, cσ20_9.2, cσ20_13.1, cσ20_13.2]) <;> first | omega | grind
    · rename_i hc26
      skip
      unfold w_X16_bounded_29
      try simp only [forall_eq, rII, rIJ, rIP, rJJ, rJI, rJP, rPP, rPI, rPJ, g1, g2, g3, g4, g5, g6, g7, g8, Nat.reduceEqDiff, Nat.reduceAdd, false_and, and_false, true_and, and_true, reduceIte, nZ0, nZ1, sσ17_6.1, sσ17_6.2, fun a k => (jσ17 a k).1, fun a k => (jσ17 a k).2]
      refine s_X16_fail g rσ17 (by (try simp only [rII, rIJ, rIP, rJJ, rJI, rJP, rPP, rPI, rPJ, g1, g2, g3, g4, g5, g6, g7, g8, Nat.reduceEqDiff, Nat.reduceAdd, false_and, and_false, true_and, and_true, reduceIte, nZ0, nZ1, sσ17_6.1, sσ17_6.2, fun a k => (jσ17 a k).1, fun a k => (jσ17 a k).2]) <;> (first | omega | with_reducible assumption | (unfold rng; omega) | (unfold rng; (repeat' split) <;> omega) | grind)) (fun σ21 r22 rσ21 fc p5 => ?_)
      have fσ21 : Fr ra jx rm [] [4, 5, 7, 8, 9, 10, 11, 12, 13] σ σ21 := Fr.tr fσ17 (Fr.mor (fc) (by decide) (by decide))
      have cσ21_7 := fc.2.1 7 (by decide)
      have cσ21_9 := fc.2.1 9 (by decide)
      have cσ21_13 := fc.2.1 13 (by decide)
      have sσ21_6 := fσ21.2.1 6 (by decide)
      have jσ21 := fσ21.2.2.1
      try simp only [rII, rIJ, rIP, rJJ, rJI, rJP, rPP, rPI, rPJ, g1, g2, g3, g4, g5, g6, g7, g8, Nat.reduceEqDiff, Nat.reduceAdd, false_and, and_false, true_and, and_true, reduceIte, nZ0, nZ1, sσ21_6.1, sσ21_6.2, fun a k => (jσ21 a k).1, fun a k => (jσ21 a k).2, cσ21_7.1, cσ21_7.2, cσ21_9.1, cσ21_9.2, cσ21_13.1, cσ21_13.2] at p5
      try simp only [forall_eq, rII, rIJ, rIP, rJJ, rJI, rJP, rPP, rPI, rPJ, g1, g2, g3, g4, g5, g6, g7, g8, Nat.reduceEqDiff, Nat.reduceAdd, false_and, and_false, true_and, and_true, reduceIte, nZ0, nZ1, sσ21_6.1, sσ21_6.2, fun a k => (jσ21 a k).1, fun a k => (jσ21 a k).2, cσ21_7.1, cσ21_7.2, cσ21_9.1, cσ21_9.2, cσ21_13.1, cσ21_13.2]
      refine ⟨by first | assumption | simp, ?_⟩
      refine hX _ _ ?_ ?_ ?_
      · exact rσ21
      · exact fσ21
      · exact rfl
  · rename_i hc9
    skip
    unfold w_X16_bounded_12
    try simp only [forall_eq, rII, rIJ, rIP, rJJ, rJI, rJP, rPP, rPI, rPJ, g1, g2, g3, g4, g5, g6, g7, g8, Nat.reduceEqDiff, Nat.reduceAdd, false_and, and_false, true_and, and_true, reduceIte, nZ0, nZ1, sσ17_6.1, sσ17_6.2, fun a k => (jσ17 a k).1, fun a k => (jσ17 a k).2]
    refine s_X16_misplaced g rσ17 (fun σ23 r24 rσ23 fc p6 => ?_)
    have fσ23 : Fr ra jx rm [] [4, 5, 7, 8, 9, 10, 11, 12, 13] σ σ23 := Fr.tr fσ17 (Fr.mor (fc) (by decide) (by decide))
    have cσ23_7 := fc.2.1 7 (by decide)
    have cσ23_9 := fc.2.1 9 (by decide)
    have cσ23_13 := fc.2.1 13 (by decide)
    have sσ23_6 := fσ23.2.1 6 (by decide)
    have jσ23 := fσ23.2.2.1
    try simp only [rII, rIJ, rIP, rJJ, rJI, rJP, rPP, rPI, rPJ, g1, g2, g3, g4, g5, g6, g7, g8, Nat.reduceEqDiff, Nat.reduceAdd, false_and, and_false, true_and, and_true, reduceIte, nZ0, nZ1, sσ23_6.1, sσ23_6.2, fun a k => (jσ23 a k).1, fun a k => (jσ23 a k).2, cσ23_7.1, cσ23_7.2, cσ23_9.1, cσ23_9.2, cσ23_13.1, cσ23_13.2] at p6
    try simp only [forall_eq, rII, rIJ, rIP, rJJ, rJI, rJP, rPP, rPI, rPJ, g1, g2, g3, g4, g5, g6, g7, g8, Nat.reduceEqDiff, Nat.reduceAdd, false_and, and_false, true_and, and_true, reduceIte, nZ0, nZ1, sσ23_6.1, sσ23_6.2, fun a k => (jσ23 a k).1, fun a k => (jσ23 a k).2, cσ23_7.1, cσ23_7.2, cσ23_9.1, cσ23_9.2, cσ23_13.1, cσ23_13.2]
    refine ⟨by first | assumption | simp, ?_⟩
    refine hX _ _ ?_ ?_ ?_
    · exact rσ23
    · exact fσ23
    · exact rfl
set_option maxHeartbeats 2000000 in
theorem s_X15_add {ra : Nat → Nat} {jx : Nat → Nat → Nat} {rm : Nat} {jm : Nat} (g : Geo ra jx rm) {σ : Sg} {v1 : Int} {v2 : Int64} (rσ : Rg ra jx rm σ) (hjm : jm = ra 15 ∨ jm = ra 16) (h1 : 0 ≤ v1 ∧ v1 < 16) (hc : gI σ (jx jm 6) v1.toNat ≤ 7) {Q : Sg → Unit → Prop} {X : Sg → String → Prop} (hQ : ∀ (σ' : Sg) (r : Unit), Rg ra jx rm σ' → Fj ra jx rm [] [] [6, 7] σ σ' → (gI σ' (jx jm 6) v1.toNat = gI σ (jx jm 6) v1.toNat + 1 ∧ (∀ i : Nat, i ≠ v1.toNat → gI σ' (jx jm 6) i = gI σ (jx jm 6) i)) → Q σ' r) : wp_X15_add ra jx rm jm v1 v2 σ Q X := by
  obtain ⟨g1, g2, g3, g4, g5, g6, g7, g8⟩ := id g
  have fσ : Fj ra jx rm [] [] [6, 7] σ σ := Fj.rf
  unfold wp_X15_add
  unfold w_X15_add_0
  try simp only [forall_eq, rII, rIJ, rIP, rJJ, rJI, rJP, rPP, rPI, rPJ, g1, g2, g3, g4, g5, g6, g7, g8, Nat.reduceEqDiff, Nat.reduceAdd, false_and, and_false, true_and, and_true, reduceIte, nZ0, nZ1]
  refine ⟨by (first | omega | with_reducible assumption | (unfold rng; omega) | (unfold rng; (repeat' split) <;> omega) | grind), ?_⟩
  refine ⟨by (first | omega | with_reducible assumption | (unfold rng; omega) | (unfold rng; (repeat' split) <;> omega) | grind), ?_⟩
  have q1 := rσ.2.2.1 jm 6 (v1.toNat); simp only [rgJ] at q1
  refine ⟨by (first | omega | with_reducible assumption | (unfold rng; omega) | (unfold rng; (repeat' split) <;> omega) | grind), ?_⟩
  refine ⟨by (first | omega | with_reducible assumption | (unfold rng; omega) | (unfold rng; (repeat' split) <;> omega) | grind), ?_⟩
  refine ⟨by (first | omega | with_reducible assumption | (unfold rng; omega) | (unfold rng; (repeat' split) <;> omega) | grind), ?_⟩
  refine ⟨by (first | omega | with_reducible assumption | (unfold rng; omega) | (unfold rng; (repeat' split) <;> omega) | grind), ?_⟩
  refine ⟨by (first | omega | with_reducible assumption | (unfold rng; omega) | (unfold rng; (repeat' split) <;> omega) | grind), ?_⟩
  refine hQ _ _ ?_ ?_ ?_
  · refine Rg.jI g ?_ (by simp only [rgJ]; first | with_reducible exact nZ_rng _ | with_reducible exact nB_rng _ | with_reducible exact wr_rng _ | with_reducible exact i32any _ | (first | omega | with_reducible assumption | (unfold rng; omega) | (unfold rng; (repeat' split) <;> omega) | grind)); refine Rg.jJ g ?_; exact rσ
  · refine Fj.jI g ?_ (by decide); refine Fj.jJ g ?_ (by decide); exact fσ
  · refine ⟨?_, fun i hi => ?_⟩ <;> (try simp only [rII, rIJ, rIP, rJJ, rJI, rJP, rPP, rPI, rPJ, g1, g2, g3, g4, g5, g6, g7, g8, Nat.reduceEqDiff, Nat.reduceAdd, false_and, and_false, true_and, and_true, reduceIte, nZ0, nZ1]) <;> (repeat' split) <;> first | omega | grind
set_option maxHeartbeats 2000000 in
theorem s_X15_column {ra : Nat → Nat} {jx : Nat → Nat → Nat} {rm : Nat} {jm : Nat} (g : Geo ra jx rm) {σ : Sg} {v1 : Int} {v2 : Int64} (rσ : Rg ra jx rm σ) (hjm : jm = ra 15 ∨ jm = ra 16) (h1 : 0 ≤ v1 ∧ v1 < 16) {Q : Sg → Int → Prop} {X : Sg → String → Prop} (hQ : ∀ (r : Int), (-1 ≤ r ∧ r < 8) → Q σ r) : wp_X15_column ra jx rm jm v1 v2 σ Q X := by
  obtain ⟨g1, g2, g3, g4, g5, g6, g7, g8⟩ := id g
  have fσ : Fr ra jx rm [] [] σ σ := Fr.rf
  unfold wp_X15_column
  unfold w_X15_column_0
  try simp only [forall_eq, rII, rIJ, rIP, rJJ, rJI, rJP, rPP, rPI, rPJ, g1, g2, g3, g4, g5, g6, g7, g8, Nat.reduceEqDiff, Nat.reduceAdd, false_and, and_false, true_and, and_true, reduceIte, nZ0, nZ1]
  have q1 := rσ.2.2.1 jm 6 (v1.toNat); simp only [rgJ] at q1
  have L6 : ∀ (fu6 : Nat) (v4 : Int) (v5 : Int), (0 ≤ v5 ∧ v5 ≤ (gI σ (jx jm 6) v1.toNat) ∧ -1 ≤ v4 ∧ v4 < 8) → (((gI σ (jx jm 6) v1.toNat) - v5).toNat) < fu6 → wl_X15_column_6 ra jx rm jm Q X fu6 σ v1 v2 v4 v5 := by
    intro fu6
    induction fu6 with
    | zero => intro  _ _ _ h9; omega
    | succ fu6 ih6 =>
      intro v4 v5 hi6 hm6
      unfold wl_X15_column_6
      unfold w_X15_column_6
      try simp only [forall_eq, rII, rIJ, rIP, rJJ, rJI, rJP, rPP, rPI, rPJ, g1, g2, g3, g4, g5, g6, g7, g8, Nat.reduceEqDiff, Nat.reduceAdd, false_and, and_false, true_and, and_true, reduceIte, nZ0, nZ1]
      refine ⟨by (first | omega | with_reducible assumption | (unfold rng; omega) | (unfold rng; (repeat' split) <;> omega) | grind), ?_⟩
      split
      · rename_i hc14
        skip
        unfold w_X15_column_49
        try simp only [forall_eq, rII, rIJ, rIP, rJJ, rJI, rJP, rPP, rPI, rPJ, g1, g2, g3, g4, g5, g6, g7, g8, Nat.reduceEqDiff, Nat.reduceAdd, false_and, and_false, true_and, and_true, reduceIte, nZ0, nZ1]
        refine hQ _ ?_
        · (try simp only [rII, rIJ, rIP, rJJ, rJI, rJP, rPP, rPI, rPJ, g1, g2, g3, g4, g5, g6, g7, g8, Nat.reduceEqDiff, Nat.reduceAdd, false_and, and_false, true_and, and_true, reduceIte, nZ0, nZ1]) <;> (first | omega | with_reducible assumption | (unfold rng; omega) | (unfold rng; (repeat' split) <;> omega) | grind)
      · rename_i hc14
        skip
        unfold w_X15_column_17
        try simp only [forall_eq, rII, rIJ, rIP, rJJ, rJI, rJP, rPP, rPI, rPJ, g1, g2, g3, g4, g5, g6, g7, g8, Nat.reduceEqDiff, Nat.reduceAdd, false_and, and_false, true_and, and_true, reduceIte, nZ0, nZ1]
        refine ⟨by (first | omega | with_reducible assumption | (unfold rng; omega) | (unfold rng; (repeat' split) <;> omega) | grind), ?_⟩
        refine ⟨by (first | omega | with_reducible assumption | (unfold rng; omega) | (unfold rng; (repeat' split) <;> omega) | grind), ?_⟩
        refine ⟨by (first | omega | with_reducible assumption | (unfold rng; omega) | (unfold rng; (repeat' split) <;> omega) | grind), ?_⟩
        split
        · rename_i hc31
          skip
          unfold w_X15_column_39
          try simp only [forall_eq, rII, rIJ, rIP, rJJ, rJI, rJP, rPP, rPI, rPJ, g1, g2, g3, g4, g5, g6, g7, g8, Nat.reduceEqDiff, Nat.reduceAdd, false_and, and_false, true_and, and_true, reduceIte, nZ0, nZ1]
          unfold w_X15_column_41
          try simp only [forall_eq, rII, rIJ, rIP, rJJ, rJI, rJP, rPP, rPI, rPJ, g1, g2, g3, g4, g5, g6, g7, g8, Nat.reduceEqDiff, Nat.reduceAdd, false_and, and_false, true_and, and_true, reduceIte, nZ0, nZ1]
          refine ⟨by (first | omega | with_reducible assumption | (unfold rng; omega) | (unfold rng; (repeat' split) <;> omega) | grind), ?_⟩
          refine ih6 _ _ ?_ ?_
          · (try simp only [rII, rIJ, rIP, rJJ, rJI, rJP, rPP, rPI, rPJ, g1, g2, g3, g4, g5, g6, g7, g8, Nat.reduceEqDiff, Nat.reduceAdd, false_and, and_false, true_and, and_true, reduceIte, nZ0, nZ1]) <;> (first | omega | with_reducible assumption | (unfold rng; omega) | (unfold rng; (repeat' split) <;> omega) | grind)
          · (try simp only [rII, rIJ, rIP, rJJ, rJI, rJP, rPP, rPI, rPJ, g1, g2, g3, g4, g5, g6, g7, g8, Nat.reduceEqDiff, Nat.reduceAdd, false_and, and_false, true_and, and_true, reduceIte, nZ0, nZ1]) <;> (first | omega | with_reducible assumption | (unfold rng; omega) | (unfold rng; (repeat' split) <;> omega) | grind)
        · rename_i hc31
          skip
          unfold w_X15_column_34
          try simp only [forall_eq, rII, rIJ, rIP, rJJ, rJI, rJP, rPP, rPI, rPJ, g1, g2, g3, g4, g5, g6, g7, g8, Nat.reduceEqDiff, Nat.reduceAdd, false_and, and_false, true_and, and_true, reduceIte, nZ0, nZ1]
          unfold w_X15_column_41
          try simp only [forall_eq, rII, rIJ, rIP, rJJ, rJI, rJP, rPP, rPI, rPJ, g1, g2, g3, g4, g5, g6, g7, g8, Nat.reduceEqDiff, Nat.reduceAdd, false_and, and_false, true_and, and_true, reduceIte, nZ0, nZ1]
          refine ⟨by (first | omega | with_reducible assumption | (unfold rng; omega) | (unfold rng; (repeat' split) <;> omega) | grind), ?_⟩
          refine ih6 _ _ ?_ ?_
          · (try simp only [rII, rIJ, rIP, rJJ, rJI, rJP, rPP, rPI, rPJ, g1, g2, g3, g4, g5, g6, g7, g8, Nat.reduceEqDiff, Nat.reduceAdd, false_and, and_false, true_and, and_true, reduceIte, nZ0, nZ1]) <;> (first | omega | with_reducible assumption | (unfold rng; omega) | (unfold rng; (repeat' split) <;> omega) | grind)
          · (try simp only [rII, rIJ, rIP, rJJ, rJI, rJP, rPP, rPI, rPJ, g1, g2, g3, g4, g5, g6, g7, g8, Nat.reduceEqDiff, Nat.reduceAdd, false_and, and_false, true_and, and_true, reduceIte, nZ0, nZ1]) <;> (first | omega | with_reducible assumption | (unfold rng; omega) | (unfold rng; (repeat' split) <;> omega) | grind)
  refine ⟨_, L6 _ _ _ ?_ (Nat.lt_succ_self _)⟩
  · (try simp only [rII, rIJ, rIP, rJJ, rJI, rJP, rPP, rPI, rPJ, g1, g2, g3, g4, g5, g6, g7, g8, Nat.reduceEqDiff, Nat.reduceAdd, false_and, and_false, true_and, and_true, reduceIte, nZ0, nZ1]) <;> (first | omega | with_reducible assumption | (unfold rng; omega) | (unfold rng; (repeat' split) <;> omega) | grind)
set_option maxHeartbeats 2000000 in
theorem s_X15_find {ra : Nat → Nat} {jx : Nat → Nat → Nat} {rm : Nat} {jm : Nat} (g : Geo ra jx rm) {σ : Sg} {v1 : Int64} (rσ : Rg ra jx rm σ) (hjm : jm = ra 15 ∨ jm = ra 16) (hm : 0 ≤ gI σ jm 0 ∧ gI σ jm 0 ≤ 16) {Q : Sg → Int → Prop} {X : Sg → String → Prop} (hQ : ∀ (r : Int), (-1 ≤ r ∧ r < gI σ jm 0) → Q σ r) : wp_X15_find ra jx rm jm v1 σ Q X := by
  obtain ⟨g1, g2, g3, g4, g5, g6, g7, g8⟩ := id g
  have fσ : Fr ra jx rm [] [] σ σ := Fr.rf
  unfold wp_X15_find
  unfold w_X15_find_0
  try simp only [forall_eq, rII, rIJ, rIP, rJJ, rJI, rJP, rPP, rPI, rPJ, g1, g2, g3, g4, g5, g6, g7, g8, Nat.reduceEqDiff, Nat.reduceAdd, false_and, and_false, true_and, and_true, reduceIte, nZ0, nZ1]
  have L5 : ∀ (fu5 : Nat) (v3 : Int) (v4 : Int), (0 ≤ v4 ∧ v4 ≤ gI σ jm 0 ∧ -1 ≤ v3 ∧ v3 < gI σ jm 0) → ((gI σ jm 0 - v4).toNat) < fu5 → wl_X15_find_5 ra jx rm jm Q X fu5 σ v1 v3 v4 := by
    intro fu5
    induction fu5 with
    | zero => intro  _ _ _ h9; omega
    | succ fu5 ih5 =>
      intro v3 v4 hi5 hm5
      unfold wl_X15_find_5
      unfold w_X15_find_5
      try simp only [forall_eq, rII, rIJ, rIP, rJJ, rJI, rJP, rPP, rPI, rPJ, g1, g2, g3, g4, g5, g6, g7, g8, Nat.reduceEqDiff, Nat.reduceAdd, false_and, and_false, true_and, and_true, reduceIte, nZ0, nZ1]
      split
      · rename_i hc11
        skip
        unfold w_X15_find_51
        try simp only [forall_eq, rII, rIJ, rIP, rJJ, rJI, rJP, rPP, rPI, rPJ, g1, g2, g3, g4, g5, g6, g7, g8, Nat.reduceEqDiff, Nat.reduceAdd, false_and, and_false, true_and, and_true, reduceIte, nZ0, nZ1]
        refine hQ _ ?_
        · (try simp only [rII, rIJ, rIP, rJJ, rJI, rJP, rPP, rPI, rPJ, g1, g2, g3, g4, g5, g6, g7, g8, Nat.reduceEqDiff, Nat.reduceAdd, false_and, and_false, true_and, and_true, reduceIte, nZ0, nZ1]) <;> (first | omega | with_reducible assumption | (unfold rng; omega) | (unfold rng; (repeat' split) <;> omega) | grind)
      · rename_i hc11
        skip
        unfold w_X15_find_14
        try simp only [forall_eq, rII, rIJ, rIP, rJJ, rJI, rJP, rPP, rPI, rPJ, g1, g2, g3, g4, g5, g6, g7, g8, Nat.reduceEqDiff, Nat.reduceAdd, false_and, and_false, true_and, and_true, reduceIte, nZ0, nZ1]
        refine ⟨by (first | omega | with_reducible assumption | (unfold rng; omega) | (unfold rng; (repeat' split) <;> omega) | grind), ?_⟩
        have q2 := rσ.2.2.1 jm 2 (v4.toNat); simp only [rgJ] at q2
        split
        · rename_i hc23
          skip
          unfold w_X15_find_43
          try simp only [forall_eq, rII, rIJ, rIP, rJJ, rJI, rJP, rPP, rPI, rPJ, g1, g2, g3, g4, g5, g6, g7, g8, Nat.reduceEqDiff, Nat.reduceAdd, false_and, and_false, true_and, and_true, reduceIte, nZ0, nZ1]
          unfold w_X15_find_44
          try simp only [forall_eq, rII, rIJ, rIP, rJJ, rJI, rJP, rPP, rPI, rPJ, g1, g2, g3, g4, g5, g6, g7, g8, Nat.reduceEqDiff, Nat.reduceAdd, false_and, and_false, true_and, and_true, reduceIte, nZ0, nZ1]
          refine ⟨by (first | omega | with_reducible assumption | (unfold rng; omega) | (unfold rng; (repeat' split) <;> omega) | grind), ?_⟩
          refine ih5 _ _ ?_ ?_
          · (try simp only [rII, rIJ, rIP, rJJ, rJI, rJP, rPP, rPI, rPJ, g1, g2, g3, g4, g5, g6, g7, g8, Nat.reduceEqDiff, Nat.reduceAdd, false_and, and_false, true_and, and_true, reduceIte, nZ0, nZ1]) <;> (first | omega | with_reducible assumption | (unfold rng; omega) | (unfold rng; (repeat' split) <;> omega) | grind)
          · (try simp only [rII, rIJ, rIP, rJJ, rJI, rJP, rPP, rPI, rPJ, g1, g2, g3, g4, g5, g6, g7, g8, Nat.reduceEqDiff, Nat.reduceAdd, false_and, and_false, true_and, and_true, reduceIte, nZ0, nZ1]) <;> (first | omega | with_reducible assumption | (unfold rng; omega) | (unfold rng; (repeat' split) <;> omega) | grind)
        · rename_i hc23
          skip
          unfold w_X15_find_26
          try simp only [forall_eq, rII, rIJ, rIP, rJJ, rJI, rJP, rPP, rPI, rPJ, g1, g2, g3, g4, g5, g6, g7, g8, Nat.reduceEqDiff, Nat.reduceAdd, false_and, and_false, true_and, and_true, reduceIte, nZ0, nZ1]
          refine ⟨by (first | omega | with_reducible assumption | (unfold rng; omega) | (unfold rng; (repeat' split) <;> omega) | grind), ?_⟩
          split
          · rename_i hc35
            skip
            unfold w_X15_find_43
            try simp only [forall_eq, rII, rIJ, rIP, rJJ, rJI, rJP, rPP, rPI, rPJ, g1, g2, g3, g4, g5, g6, g7, g8, Nat.reduceEqDiff, Nat.reduceAdd, false_and, and_false, true_and, and_true, reduceIte, nZ0, nZ1]
            unfold w_X15_find_44
            try simp only [forall_eq, rII, rIJ, rIP, rJJ, rJI, rJP, rPP, rPI, rPJ, g1, g2, g3, g4, g5, g6, g7, g8, Nat.reduceEqDiff, Nat.reduceAdd, false_and, and_false, true_and, and_true, reduceIte, nZ0, nZ1]
            refine ⟨by (first | omega | with_reducible assumption | (unfold rng; omega) | (unfold rng; (repeat' split) <;> omega) | grind), ?_⟩
            refine ih5 _ _ ?_ ?_
            · (try simp only [rII, rIJ, rIP, rJJ, rJI, rJP, rPP, rPI, rPJ, g1, g2, g3, g4, g5, g6, g7, g8, Nat.reduceEqDiff, Nat.reduceAdd, false_and, and_false, true_and, and_true, reduceIte, nZ0, nZ1]) <;> (first | omega | with_reducible assumption | (unfold rng; omega) | (unfold rng; (repeat' split) <;> omega) | grind)
            · (try simp only [rII, rIJ, rIP, rJJ, rJI, rJP, rPP, rPI, rPJ, g1, g2, g3, g4, g5, g6, g7, g8, Nat.reduceEqDiff, Nat.reduceAdd, false_and, and_false, true_and, and_true, reduceIte, nZ0, nZ1]) <;> (first | omega | with_reducible assumption | (unfold rng; omega) | (unfold rng; (repeat' split) <;> omega) | grind)
          · rename_i hc35
            skip
            unfold w_X15_find_38
            try simp only [forall_eq, rII, rIJ, rIP, rJJ, rJI, rJP, rPP, rPI, rPJ, g1, g2, g3, g4, g5, g6, g7, g8, Nat.reduceEqDiff, Nat.reduceAdd, false_and, and_false, true_and, and_true, reduceIte, nZ0, nZ1]
            unfold w_X15_find_44
            try simp only [forall_eq, rII, rIJ, rIP, rJJ, rJI, rJP, rPP, rPI, rPJ, g1, g2, g3, g4, g5, g6, g7, g8, Nat.reduceEqDiff, Nat.reduceAdd, false_and, and_false, true_and, and_true, reduceIte, nZ0, nZ1]
            refine ⟨by (first | omega | with_reducible assumption | (unfold rng; omega) | (unfold rng; (repeat' split) <;> omega) | grind), ?_⟩
            refine ih5 _ _ ?_ ?_
            · (try simp only [rII, rIJ, rIP, rJJ, rJI, rJP, rPP, rPI, rPJ, g1, g2, g3, g4, g5, g6, g7, g8, Nat.reduceEqDiff, Nat.reduceAdd, false_and, and_false, true_and, and_true, reduceIte, nZ0, nZ1]) <;> (first | omega | with_reducible assumption | (unfold rng; omega) | (unfold rng; (repeat' split) <;> omega) | grind)
            · (try simp only [rII, rIJ, rIP, rJJ, rJI, rJP, rPP, rPI, rPJ, g1, g2, g3, g4, g5, g6, g7, g8, Nat.reduceEqDiff, Nat.reduceAdd, false_and, and_false, true_and, and_true, reduceIte, nZ0, nZ1]) <;> (first | omega | with_reducible assumption | (unfold rng; omega) | (unfold rng; (repeat' split) <;> omega) | grind)
  refine ⟨_, L5 _ _ _ ?_ (Nat.lt_succ_self _)⟩
  · (try simp only [rII, rIJ, rIP, rJJ, rJI, rJP, rPP, rPI, rPJ, g1, g2, g3, g4, g5, g6, g7, g8, Nat.reduceEqDiff, Nat.reduceAdd, false_and, and_false, true_and, and_true, reduceIte, nZ0, nZ1]) <;> (first | omega | with_reducible assumption | (unfold rng; omega) | (unfold rng; (repeat' split) <;> omega) | grind)
set_option maxHeartbeats 4000000 in
theorem s_X15_copyColumns {ra : Nat → Nat} {jx : Nat → Nat → Nat} {rm : Nat} {jm : Nat} (g : Geo ra jx rm) {σ : Sg} {v1 : Int} {v2 : Int} (rσ : Rg ra jx rm σ) (hjm : jm = ra 15 ∨ jm = ra 16) (h1 : 0 ≤ v1 ∧ v1 < 16) (h2 : 0 ≤ v2 ∧ v2 < 16) (h12 : v1 ≠ v2) (hc : gI σ (jx jm 6) v1.toNat + gI σ (jx jm 6) v2.toNat ≤ 8) {Q : Sg → Unit → Prop} {X : Sg → String → Prop} (hQ : ∀ (σ' : Sg) (r : Unit), Rg ra jx rm σ' → Fj ra jx rm [] [] [6, 7] σ σ' → (gI σ' (jx jm 6) v1.toNat = gI σ (jx jm 6) v1.toNat + gI σ (jx jm 6) v2.toNat ∧ (∀ i : Nat, i ≠ v1.toNat → gI σ' (jx jm 6) i = gI σ (jx jm 6) i)) → Q σ' r) : wp_X15_copyColumns ra jx rm jm v1 v2 σ Q X := by
  obtain ⟨g1, g2, g3, g4, g5, g6, g7, g8⟩ := id g
  have fσ : Fj ra jx rm [] [] [6, 7] σ σ := Fj.rf
  have q62 := rσ.2.2.1 jm 6 v2.toNat; simp only [rgJ] at q62
  have q61 := rσ.2.2.1 jm 6 v1.toNat; simp only [rgJ] at q61
  have hne : v2.toNat ≠ v1.toNat := by omega
  unfold wp_X15_copyColumns
  unfold w_X15_copyColumns_0
  try simp only [forall_eq, rII, rIJ, rIP, rJJ, rJI, rJP, rPP, rPI, rPJ, g1, g2, g3, g4, g5, g6, g7, g8, Nat.reduceEqDiff, Nat.reduceAdd, false_and, and_false, true_and, and_true, reduceIte, nZ0, nZ1]
  have q1 := rσ.2.2.1 jm 6 (v2.toNat); simp only [rgJ] at q1
  have q2 := rσ.2.2.1 jm 6 (v1.toNat); simp only [rgJ] at q2
  have L2 : ∀ (fu2 : Nat) (τ2 : Sg) (v3 : Int), Rg ra jx rm τ2 → Fj ra jx rm [] [] [6, 7] σ τ2 → (0 ≤ v3 ∧ v3 ≤ gI σ (jx jm 6) v2.toNat ∧ gI τ2 (jx jm 6) v1.toNat = gI σ (jx jm 6) v1.toNat + v3 ∧ (∀ i : Nat, i ≠ v1.toNat → gI τ2 (jx jm 6) i = gI σ (jx jm 6) i)) → ((gI σ (jx jm 6) v2.toNat - v3).toNat) < fu2 → wl_X15_copyColumns_2 ra jx rm jm Q X fu2 τ2 v1 v2 v3 := by
    intro fu2
    induction fu2 with
    | zero => intro τ2 _ _ _ _ h9; omega
    | succ fu2 ih2 =>
      intro τ2 v3 rτ2 fτ2 hi2 hm2
      unfold wl_X15_copyColumns_2
      unfold w_X15_copyColumns_2
      try simp only [forall_eq, rII, rIJ, rIP, rJJ, rJI, rJP, rPP, rPI, rPJ, g1, g2, g3, g4, g5, g6, g7, g8, Nat.reduceEqDiff, Nat.reduceAdd, false_and, and_false, true_and, and_true, reduceIte, nZ0, nZ1]
      have hz9 := hi2.2.2.2
      have hz2 := hz9 v2.toNat hne
      have z1 := hi2.1; have z2 := hi2.2.1; have z3 := hi2.2.2.1; clear hi2
      refine ⟨by (first | omega | with_reducible assumption | (unfold rng; omega) | (unfold rng; (repeat' split) <;> omega) | grind), ?_⟩
      have q3 := rτ2.2.2.1 jm 6 (v2.toNat); simp only [rgJ] at q3
      split
      · rename_i hc9
        skip
        unfold w_X15_copyColumns_34
        try simp only [forall_eq, rII, rIJ, rIP, rJJ, rJI, rJP, rPP, rPI, rPJ, g1, g2, g3, g4, g5, g6, g7, g8, Nat.reduceEqDiff, Nat.reduceAdd, false_and, and_false, true_and, and_true, reduceIte, nZ0, nZ1]
        refine hQ _ _ ?_ ?_ ?_
        · exact rτ2
        · exact fτ2
        · exact ⟨by omega, hz9⟩
      · rename_i hc9
        skip
        unfold w_X15_copyColumns_12
        try simp only [forall_eq, rII, rIJ, rIP, rJJ, rJI, rJP, rPP, rPI, rPJ, g1, g2, g3, g4, g5, g6, g7, g8, Nat.reduceEqDiff, Nat.reduceAdd, false_and, and_false, true_and, and_true, reduceIte, nZ0, nZ1]
        refine ⟨by (first | omega | with_reducible assumption | (unfold rng; omega) | (unfold rng; (repeat' split) <;> omega) | grind), ?_⟩
        refine ⟨by (first | omega | with_reducible assumption | (unfold rng; omega) | (unfold rng; (repeat' split) <;> omega) | grind), ?_⟩
        refine ⟨by (first | omega | with_reducible assumption | (unfold rng; omega) | (unfold rng; (repeat' split) <;> omega) | grind), ?_⟩
        refine s_X15_add g rτ2 hjm (by (try simp only [rII, rIJ, rIP, rJJ, rJI, rJP, rPP, rPI, rPJ, g1, g2, g3, g4, g5, g6, g7, g8, Nat.reduceEqDiff, Nat.reduceAdd, false_and, and_false, true_and, and_true, reduceIte, nZ0, nZ1]) <;> (first | omega | with_reducible assumption | (unfold rng; omega) | (unfold rng; (repeat' split) <;> omega) | grind)) (by (try simp only [rII, rIJ, rIP, rJJ, rJI, rJP, rPP, rPI, rPJ, g1, g2, g3, g4, g5, g6, g7, g8, Nat.reduceEqDiff, Nat.reduceAdd, false_and, and_false, true_and, and_true, reduceIte, nZ0, nZ1]) <;> (first | omega | with_reducible assumption | (unfold rng; omega) | (unfold rng; (repeat' split) <;> omega) | grind)) (fun σ3 _ rσ3 fc p4 => ?_)
        have fσ3 : Fj ra jx rm [] [] [6, 7] σ σ3 := Fj.tr fτ2 (Fj.mor (fc) (by decide) (by decide) (by decide))
        have p9 := p4
        try simp only [rII, rIJ, rIP, rJJ, rJI, rJP, rPP, rPI, rPJ, g1, g2, g3, g4, g5, g6, g7, g8, Nat.reduceEqDiff, Nat.reduceAdd, false_and, and_false, true_and, and_true, reduceIte, nZ0, nZ1] at p4
        try simp only [forall_eq, rII, rIJ, rIP, rJJ, rJI, rJP, rPP, rPI, rPJ, g1, g2, g3, g4, g5, g6, g7, g8, Nat.reduceEqDiff, Nat.reduceAdd, false_and, and_false, true_and, and_true, reduceIte, nZ0, nZ1]
        refine ⟨by (first | omega | with_reducible assumption | (unfold rng; omega) | (unfold rng; (repeat' split) <;> omega) | grind), ?_⟩
        refine ih2 _ _ ?_ ?_ ?_ ?_
        · exact rσ3
        · exact fσ3
        · refine ⟨by omega, by omega, ?_, fun i hi => ?_⟩ <;> first | omega | rfl | (rw [p9.1]; omega) | (rw [p9.2 i hi]; exact hz9 i hi)
        · (try simp only [rII, rIJ, rIP, rJJ, rJI, rJP, rPP, rPI, rPJ, g1, g2, g3, g4, g5, g6, g7, g8, Nat.reduceEqDiff, Nat.reduceAdd, false_and, and_false, true_and, and_true, reduceIte, nZ0, nZ1]) <;> (first | omega | with_reducible assumption | (unfold rng; omega) | (unfold rng; (repeat' split) <;> omega) | grind)
  refine ⟨_, L2 _ _ _ ?_ ?_ ?_ (Nat.lt_succ_self _)⟩
  · exact rσ
  · exact fσ
  · refine ⟨by omega, by omega, ?_, fun i hi => ?_⟩ <;> first | omega | rfl | (rw [p9.1]; omega) | (rw [p9.2 i hi]; exact hz9 i hi)
set_option maxHeartbeats 4000000 in
theorem s_X15_clear {ra : Nat → Nat} {jx : Nat → Nat → Nat} {rm : Nat} {jm : Nat} (g : Geo ra jx rm) {σ : Sg} (rσ : Rg ra jx rm σ) (hjm : jm = ra 15 ∨ jm = ra 16) {Q : Sg → Unit → Prop} {X : Sg → String → Prop} (hQ : ∀ (σ' : Sg) (r : Unit), Rg ra jx rm σ' → Fj ra jx rm [15, 16] [] [18] σ σ' → (True) → Q σ' r) : wp_X15_clear ra jx rm jm σ Q X := by
  obtain ⟨g1, g2, g3, g4, g5, g6, g7, g8⟩ := id g
  have fσ : Fj ra jx rm [15, 16] [] [18] σ σ := Fj.rf
  unfold wp_X15_clear
  unfold w_X15_clear_0
  try simp only [forall_eq, rII, rIJ, rIP, rJJ, rJI, rJP, rPP, rPI, rPJ, g1, g2, g3, g4, g5, g6, g7, g8, Nat.reduceEqDiff, Nat.reduceAdd, false_and, and_false, true_and, and_true, reduceIte, nZ0, nZ1]
  have L17 : ∀ (fu17 : Nat) (τ17 : Sg) (v1 : Int), Rg ra jx rm τ17 → Fj ra jx rm [15, 16] [] [18] σ τ17 → (0 ≤ v1 ∧ v1 ≤ 4) → ((4 - v1).toNat) < fu17 → wl_X15_clear_17 ra jx rm jm Q X fu17 τ17 v1 := by
    intro fu17
    induction fu17 with
    | zero => intro τ17 _ _ _ _ h9; omega
    | succ fu17 ih17 =>
      intro τ17 v1 rτ17 fτ17 hi17 hm17
      unfold wl_X15_clear_17
      unfold w_X15_clear_17
      try simp only [forall_eq, rII, rIJ, rIP, rJJ, rJI, rJP, rPP, rPI, rPJ, g1, g2, g3, g4, g5, g6, g7, g8, Nat.reduceEqDiff, Nat.reduceAdd, false_and, and_false, true_and, and_true, reduceIte, nZ0, nZ1]
      split
      · rename_i hc19
        skip
        unfold w_X15_clear_35
        try simp only [forall_eq, rII, rIJ, rIP, rJJ, rJI, rJP, rPP, rPI, rPJ, g1, g2, g3, g4, g5, g6, g7, g8, Nat.reduceEqDiff, Nat.reduceAdd, false_and, and_false, true_and, and_true, reduceIte, nZ0, nZ1]
        refine hQ _ _ ?_ ?_ ?_
        · exact rτ17
        · exact fτ17
        · exact trivial
      · rename_i hc19
        skip
        unfold w_X15_clear_22
        try simp only [forall_eq, rII, rIJ, rIP, rJJ, rJI, rJP, rPP, rPI, rPJ, g1, g2, g3, g4, g5, g6, g7, g8, Nat.reduceEqDiff, Nat.reduceAdd, false_and, and_false, true_and, and_true, reduceIte, nZ0, nZ1]
        refine ⟨by (first | omega | with_reducible assumption | (unfold rng; omega) | (unfold rng; (repeat' split) <;> omega) | grind), ?_⟩
        refine ⟨by (first | omega | with_reducible assumption | (unfold rng; omega) | (unfold rng; (repeat' split) <;> omega) | grind), ?_⟩
        refine ih17 _ _ ?_ ?_ ?_ ?_
        · refine Rg.jI g ?_ (by simp only [rgJ]; first | with_reducible exact nZ_rng _ | with_reducible exact nB_rng _ | with_reducible exact wr_rng _ | with_reducible exact i32any _ | (first | omega | with_reducible assumption | (unfold rng; omega) | (unfold rng; (repeat' split) <;> omega) | grind)); exact rτ17
        · refine Fj.jI g ?_ (by decide); exact fτ17
        · (try simp only [rII, rIJ, rIP, rJJ, rJI, rJP, rPP, rPI, rPJ, g1, g2, g3, g4, g5, g6, g7, g8, Nat.reduceEqDiff, Nat.reduceAdd, false_and, and_false, true_and, and_true, reduceIte, nZ0, nZ1]) <;> (first | omega | with_reducible assumption | (unfold rng; omega) | (unfold rng; (repeat' split) <;> omega) | grind)
        · (try simp only [rII, rIJ, rIP, rJJ, rJI, rJP, rPP, rPI, rPJ, g1, g2, g3, g4, g5, g6, g7, g8, Nat.reduceEqDiff, Nat.reduceAdd, false_and, and_false, true_and, and_true, reduceIte, nZ0, nZ1]) <;> (first | omega | with_reducible assumption | (unfold rng; omega) | (unfold rng; (repeat' split) <;> omega) | grind)
  refine ⟨_, L17 _ _ _ ?_ ?_ ?_ (Nat.lt_succ_self _)⟩
  · refine Rg.oI g ?_ (by assumption) (by (first | omega | with_reducible assumption | (unfold rng; omega) | (unfold rng; (repeat' split) <;> omega) | grind)); refine Rg.oI g ?_ (by assumption) (by (first | omega | with_reducible assumption | (unfold rng; omega) | (unfold rng; (repeat' split) <;> omega) | grind)); refine Rg.oI g ?_ (by assumption) (by (first | omega | with_reducible assumption | (unfold rng; omega) | (unfold rng; (repeat' split) <;> omega) | grind)); exact rσ
  · refine Fj.oI g ?_ (by assumption) (by decide); refine Fj.oI g ?_ (by assumption) (by decide); refine Fj.oI g ?_ (by assumption) (by decide); exact fσ
  · (try simp only [rII, rIJ, rIP, rJJ, rJI, rJP, rPP, rPI, rPJ, g1, g2, g3, g4, g5, g6, g7, g8, Nat.reduceEqDiff, Nat.reduceAdd, false_and, and_false, true_and, and_true, reduceIte, nZ0, nZ1]) <;> (first | omega | with_reducible assumption | (unfold rng; omega) | (unfold rng; (repeat' split) <;> omega) | grind)
set_option maxHeartbeats 2000000 in
theorem s_X15_step {ra : Nat → Nat} {jx : Nat → Nat → Nat} {rm : Nat} {jm : Nat} (g : Geo ra jx rm) {σ : Sg} {v1 : Int} {v2 : Int64} (rσ : Rg ra jx rm σ) (hjm : jm = ra 15 ∨ jm = ra 16) (hs : 0 ≤ gI σ jm 17 ∧ gI σ jm 17 < 6000) (h1 : 0 ≤ v1 ∧ v1 ≤ 17) {Q : Sg → Int → Prop} {X : Sg → String → Prop} (hQ : ∀ (σ' : Sg) (r : Int), Rg ra jx rm σ' → Fj ra jx rm [15, 16] [] [15, 16] σ σ' → (r = gI σ jm 17 ∧ gI σ' jm 17 = gI σ jm 17 + 1 ∧ (∀ i : Nat, gI σ' (jx jm 15) i = if i = (gI σ jm 17).toNat then v1 else gI σ (jx jm 15) i) ∧ (∀ i : Nat, gJ σ' (jx jm 16) i = if i = (gI σ jm 17).toNat then v2 else gJ σ (jx jm 16) i) ∧ (∀ k, k ≠ 17 → gI σ' jm k = gI σ jm k)) → Q σ' r) : wp_X15_step ra jx rm jm v1 v2 σ Q X := by
  obtain ⟨g1, g2, g3, g4, g5, g6, g7, g8⟩ := id g
  have fσ : Fj ra jx rm [15, 16] [] [15, 16] σ σ := Fj.rf
  unfold wp_X15_step
  unfold w_X15_step_0
  try simp only [forall_eq, rII, rIJ, rIP, rJJ, rJI, rJP, rPP, rPI, rPJ, g1, g2, g3, g4, g5, g6, g7, g8, Nat.reduceEqDiff, Nat.reduceAdd, false_and, and_false, true_and, and_true, reduceIte, nZ0, nZ1]
  refine ⟨by (first | omega | with_reducible assumption | (unfold rng; omega) | (unfold rng; (repeat' split) <;> omega) | grind), ?_⟩
  refine ⟨by (first | omega | with_reducible assumption | (unfold rng; omega) | (unfold rng; (repeat' split) <;> omega) | grind), ?_⟩
  refine ⟨by (first | omega | with_reducible assumption | (unfold rng; omega) | (unfold rng; (repeat' split) <;> omega) | grind), ?_⟩
  refine ⟨by (first | omega | with_reducible assumption | (unfold rng; omega) | (unfold rng; (repeat' split) <;> omega) | grind), ?_⟩
  refine hQ _ _ ?_ ?_ ?_
  · refine Rg.oI g ?_ (by assumption) (by (first | omega | with_reducible assumption | (unfold rng; omega) | (unfold rng; (repeat' split) <;> omega) | grind)); refine Rg.jJ g ?_; refine Rg.jI g ?_ (by simp only [rgJ]; first | with_reducible exact nZ_rng _ | with_reducible exact nB_rng _ | with_reducible exact wr_rng _ | with_reducible exact i32any _ | (first | omega | with_reducible assumption | (unfold rng; omega) | (unfold rng; (repeat' split) <;> omega) | grind)); exact rσ
  · refine Fj.oI g ?_ (by assumption) (by decide); refine Fj.jJ g ?_ (by decide); refine Fj.jI g ?_ (by decide); exact fσ
  · (try simp only [rII, rIJ, rIP, rJJ, rJI, rJP, rPP, rPI, rPJ, g1, g2, g3, g4, g5, g6, g7, g8, Nat.reduceEqDiff, Nat.reduceAdd, false_and, and_false, true_and, and_true, reduceIte, nZ0, nZ1]) <;> (first | omega | with_reducible assumption | (unfold rng; omega) | (unfold rng; (repeat' split) <;> omega) | grind)
set_option maxHeartbeats 4000000 in
theorem s_X16_columnOf {ra : Nat → Nat} {jx : Nat → Nat → Nat} {rm : Nat} {da : Nat} (g : Geo ra jx rm) {σ : Sg} {v1 : Int} (rσ : Rg ra jx rm σ) (hat : gI σ rm 7 ≤ gI σ rm 6) (hd : gP σ rm 18 = some da) (hda : da = ra 15 ∨ da = ra 16) (h1 : 0 ≤ v1 ∧ v1 < 16) {Q : Sg → Int → Prop} {X : Sg → String → Prop} (hQ : ∀ (σ' : Sg) (r : Int), Rg ra jx rm σ' → Fr ra jx rm [] [4, 5, 7, 8, 9, 10, 11, 12, 13] σ σ' → (gI σ' rm 7 ≤ gI σ rm 6 ∧ 0 ≤ r ∧ r < 8) → Q σ' r) (hX : ∀ (σ' : Sg) (E : String), Rg ra jx rm σ' → Fr ra jx rm [] [4, 5, 7, 8, 9, 10, 11, 12, 13] σ σ' → (E = "StreamHouseModel$Fault") → X σ' E) : wp_X16_columnOf ra jx rm v1 σ Q X := by
  obtain ⟨g1, g2, g3, g4, g5, g6, g7, g8⟩ := id g
  have fσ : Fr ra jx rm [] [4, 5, 7, 8, 9, 10, 11, 12, 13] σ σ := Fr.rf
  unfold wp_X16_columnOf
  unfold w_X16_columnOf_0
  try simp only [forall_eq, rII, rIJ, rIP, rJJ, rJI, rJP, rPP, rPI, rPJ, g1, g2, g3, g4, g5, g6, g7, g8, Nat.reduceEqDiff, Nat.reduceAdd, false_and, and_false, true_and, and_true, reduceIte, nZ0, nZ1]
  refine s_X16_seeName g rσ (by (try simp only [rII, rIJ, rIP, rJJ, rJI, rJP, rPP, rPI, rPJ, g1, g2, g3, g4, g5, g6, g7, g8, Nat.reduceEqDiff, Nat.reduceAdd, false_and, and_false, true_and, and_true, reduceIte, nZ0, nZ1]) <;> (first | omega | with_reducible assumption | (unfold rng; omega) | (unfold rng; (repeat' split) <;> omega) | grind)) (fun σ17 r18 rσ17 fc p1 => ?_) (fun σx E rx fx px => hX _ _ rx (Fr.tr fσ (Fr.mor (fx) (by decide) (by decide))) px)
  have fσ17 : Fr ra jx rm [] [4, 5, 7, 8, 9, 10, 11, 12, 13] σ σ17 := Fr.tr fσ (Fr.mor (fc) (by decide) (by decide))
  have sσ17_6 := fσ17.2.1 6 (by decide)
  have jσ17 := fσ17.2.2.1
  have pσ17 := fσ17.2.2.2
  have obσ17 := Fr.ob fσ17 hda (by decide)
  try simp only [rII, rIJ, rIP, rJJ, rJI, rJP, rPP, rPI, rPJ, g1, g2, g3, g4, g5, g6, g7, g8, Nat.reduceEqDiff, Nat.reduceAdd, false_and, and_false, true_and, and_true, reduceIte, nZ0, nZ1, sσ17_6.1, sσ17_6.2, fun a k => (jσ17 a k).1, fun a k => (jσ17 a k).2, pσ17, obσ17] at p1
  try simp only [forall_eq, rII, rIJ, rIP, rJJ, rJI, rJP, rPP, rPI, rPJ, g1, g2, g3, g4, g5, g6, g7, g8, Nat.reduceEqDiff, Nat.reduceAdd, false_and, and_false, true_and, and_true, reduceIte, nZ0, nZ1, sσ17_6.1, sσ17_6.2, fun a k => (jσ17 a k).1, fun a k => (jσ17 a k).2, pσ17, obσ17]
  refine ⟨da, by exact hd, hda, ?_⟩
  refine s_X15_column g rσ17 hda (by (try simp only [rII, rIJ, rIP, rJJ, rJI, rJP, rPP, rPI, rPJ, g1, g2, g3, g4, g5, g6, g7, g8, Nat.reduceEqDiff, Nat.reduceAdd, false_and, and_false, true_and, and_true, reduceIte, nZ0, nZ1, sσ17_6.1, sσ17_6.2, fun a k => (jσ17 a k).1, fun a k => (jσ17 a k).2, pσ17, obσ17]) <;> (first | omega | with_reducible assumption | (unfold rng; omega) | (unfold rng; (repeat' split) <;> omega) | grind)) (fun r21 p2 => ?_)
  try simp only [rII, rIJ, rIP, rJJ, rJI, rJP, rPP, rPI, rPJ, g1, g2, g3, g4, g5, g6, g7, g8, Nat.reduceEqDiff, Nat.reduceAdd, false_and, and_false, true_and, and_true, reduceIte, nZ0, nZ1, sσ17_6.1, sσ17_6.2, fun a k => (jσ17 a k).1, fun a k => (jσ17 a k).2, pσ17, obσ17] at p2
  try simp only [forall_eq, rII, rIJ, rIP, rJJ, rJI, rJP, rPP, rPI, rPJ, g1, g2, g3, g4, g5, g6, g7, g8, Nat.reduceEqDiff, Nat.reduceAdd, false_and, and_false, true_and, and_true, reduceIte, nZ0, nZ1, sσ17_6.1, sσ17_6.2, fun a k => (jσ17 a k).1, fun a k => (jσ17 a k).2, pσ17, obσ17]
  split
  · rename_i hc15
    skip
    unfold w_X16_columnOf_24
    try simp only [forall_eq, rII, rIJ, rIP, rJJ, rJI, rJP, rPP, rPI, rPJ, g1, g2, g3, g4, g5, g6, g7, g8, Nat.reduceEqDiff, Nat.reduceAdd, false_and, and_false, true_and, and_true, reduceIte, nZ0, nZ1, sσ17_6.1, sσ17_6.2, fun a k => (jσ17 a k).1, fun a k => (jσ17 a k).2, pσ17, obσ17]
    refine s_X16_take g rσ17 (fun σ22 _ rσ22 fc p3 => ?_)
    have fσ22 : Fr ra jx rm [] [4, 5, 7, 8, 9, 10, 11, 12, 13] σ σ22 := Fr.tr fσ17 (Fr.mor (fc) (by decide) (by decide))
    have cσ22_7 := fc.2.1 7 (by decide)
    have sσ22_6 := fσ22.2.1 6 (by decide)
    have jσ22 := fσ22.2.2.1
    have pσ22 := fσ22.2.2.2
    have obσ22 := Fr.ob fσ22 hda (by decide)
    try simp only [rII, rIJ, rIP, rJJ, rJI, rJP, rPP, rPI, rPJ, g1, g2, g3, g4, g5, g6, g7, g8, Nat.reduceEqDiff, Nat.reduceAdd, false_and, and_false, true_and, and_true, reduceIte, nZ0, nZ1, sσ22_6.1, sσ22_6.2, fun a k => (jσ22 a k).1, fun a k => (jσ22 a k).2, pσ22, obσ22, cσ22_7.1, cσ22_7.2] at p3
    try simp only [forall_eq, rII, rIJ, rIP, rJJ, rJI, rJP, rPP, rPI, rPJ, g1, g2, g3, g4, g5, g6, g7, g8, Nat.reduceEqDiff, Nat.reduceAdd, false_and, and_false, true_and, and_true, reduceIte, nZ0, nZ1, sσ22_6.1, sσ22_6.2, fun a k => (jσ22 a k).1, fun a k => (jσ22 a k).2, pσ22, obσ22, cσ22_7.1, cσ22_7.2]
    refine hQ _ _ ?_ ?_ ?_
    · exact rσ22
    · exact fσ22
    · (try simp only [rII, rIJ, rIP, rJJ, rJI, rJP, rPP, rPI, rPJ, g1, g2, g3, g4, g5, g6, g7, g8, Nat.reduceEqDiff, Nat.reduceAdd, false_and, and_false, true_and, and_true, reduceIte, nZ0, nZ1, sσ22_6.1, sσ22_6.2, fun a k => (jσ22 a k).1, fun a k => (jσ22 a k).2, pσ22, obσ22, cσ22_7.1, cσ22_7.2]) <;> (first | omega | with_reducible assumption | (unfold rng; omega) | (unfold rng; (repeat' split) <;> omega) | grind)
  · rename_i hc15
    skip
    unfold w_X16_columnOf_18
    try simp only [forall_eq, rII, rIJ, rIP, rJJ, rJI, rJP, rPP, rPI, rPJ, g1, g2, g3, g4, g5, g6, g7, g8, Nat.reduceEqDiff, Nat.reduceAdd, false_and, and_false, true_and, and_true, reduceIte, nZ0, nZ1, sσ17_6.1, sσ17_6.2, fun a k => (jσ17 a k).1, fun a k => (jσ17 a k).2, pσ17, obσ17]
    refine s_X16_fail g rσ17 (by (try simp only [rII, rIJ, rIP, rJJ, rJI, rJP, rPP, rPI, rPJ, g1, g2, g3, g4, g5, g6, g7, g8, Nat.reduceEqDiff, Nat.reduceAdd, false_and, and_false, true_and, and_true, reduceIte, nZ0, nZ1, sσ17_6.1, sσ17_6.2, fun a k => (jσ17 a k).1, fun a k => (jσ17 a k).2, pσ17, obσ17]) <;> (first | omega | with_reducible assumption | (unfold rng; omega) | (unfold rng; (repeat' split) <;> omega) | grind)) (fun σ23 r24 rσ23 fc p4 => ?_)
    have fσ23 : Fr ra jx rm [] [4, 5, 7, 8, 9, 10, 11, 12, 13] σ σ23 := Fr.tr fσ17 (Fr.mor (fc) (by decide) (by decide))
    have cσ23_7 := fc.2.1 7 (by decide)
    have sσ23_6 := fσ23.2.1 6 (by decide)
    have jσ23 := fσ23.2.2.1
    have pσ23 := fσ23.2.2.2
    have obσ23 := Fr.ob fσ23 hda (by decide)
    try simp only [rII, rIJ, rIP, rJJ, rJI, rJP, rPP, rPI, rPJ, g1, g2, g3, g4, g5, g6, g7, g8, Nat.reduceEqDiff, Nat.reduceAdd, false_and, and_false, true_and, and_true, reduceIte, nZ0, nZ1, sσ23_6.1, sσ23_6.2, fun a k => (jσ23 a k).1, fun a k => (jσ23 a k).2, pσ23, obσ23, cσ23_7.1, cσ23_7.2] at p4
    try simp only [forall_eq, rII, rIJ, rIP, rJJ, rJI, rJP, rPP, rPI, rPJ, g1, g2, g3, g4, g5, g6, g7, g8, Nat.reduceEqDiff, Nat.reduceAdd, false_and, and_false, true_and, and_true, reduceIte, nZ0, nZ1, sσ23_6.1, sσ23_6.2, fun a k => (jσ23 a k).1, fun a k => (jσ23 a k).2, pσ23, obσ23, cσ23_7.1, cσ23_7.2]
    refine ⟨by first | assumption | simp, ?_⟩
    refine hX _ _ ?_ ?_ ?_
    · exact rσ23
    · exact fσ23
    · exact rfl
set_option maxHeartbeats 4000000 in
theorem s_X16_seeInput {ra : Nat → Nat} {jx : Nat → Nat → Nat} {rm : Nat} {da : Nat} (g : Geo ra jx rm) {σ : Sg} (rσ : Rg ra jx rm σ) (hat : gI σ rm 7 ≤ gI σ rm 6) (hd : gP σ rm 18 = some da) (hda : da = ra 15 ∨ da = ra 16) (hm : 0 ≤ gI σ da 0 ∧ gI σ da 0 ≤ 16) {Q : Sg → Int → Prop} {X : Sg → String → Prop} (hQ : ∀ (σ' : Sg) (r : Int), Rg ra jx rm σ' → Fr ra jx rm [] [4, 5, 7, 8, 9, 10, 11, 12, 13] σ σ' → (gI σ' rm 7 ≤ gI σ rm 6 ∧ 0 ≤ r ∧ r < gI σ da 0) → Q σ' r) (hX : ∀ (σ' : Sg) (E : String), Rg ra jx rm σ' → Fr ra jx rm [] [4, 5, 7, 8, 9, 10, 11, 12, 13] σ σ' → (E = "StreamHouseModel$Fault") → X σ' E) : wp_X16_seeInput ra jx rm σ Q X := by
  obtain ⟨g1, g2, g3, g4, g5, g6, g7, g8⟩ := id g
  have fσ : Fr ra jx rm [] [4, 5, 7, 8, 9, 10, 11, 12, 13] σ σ := Fr.rf
  unfold wp_X16_seeInput
  unfold w_X16_seeInput_0
  try simp only [forall_eq, rII, rIJ, rIP, rJJ, rJI, rJP, rPP, rPI, rPJ, g1, g2, g3, g4, g5, g6, g7, g8, Nat.reduceEqDiff, Nat.reduceAdd, false_and, and_false, true_and, and_true, reduceIte, nZ0, nZ1]
  refine s_X16_seeName g rσ (by (try simp only [rII, rIJ, rIP, rJJ, rJI, rJP, rPP, rPI, rPJ, g1, g2, g3, g4, g5, g6, g7, g8, Nat.reduceEqDiff, Nat.reduceAdd, false_and, and_false, true_and, and_true, reduceIte, nZ0, nZ1]) <;> (first | omega | with_reducible assumption | (unfold rng; omega) | (unfold rng; (repeat' split) <;> omega) | grind)) (fun σ15 r16 rσ15 fc p1 => ?_) (fun σx E rx fx px => hX _ _ rx (Fr.tr fσ (Fr.mor (fx) (by decide) (by decide))) px)
  have fσ15 : Fr ra jx rm [] [4, 5, 7, 8, 9, 10, 11, 12, 13] σ σ15 := Fr.tr fσ (Fr.mor (fc) (by decide) (by decide))
  have sσ15_6 := fσ15.2.1 6 (by decide)
  have jσ15 := fσ15.2.2.1
  have pσ15 := fσ15.2.2.2
  have obσ15 := Fr.ob fσ15 hda (by decide)
  try simp only [rII, rIJ, rIP, rJJ, rJI, rJP, rPP, rPI, rPJ, g1, g2, g3, g4, g5, g6, g7, g8, Nat.reduceEqDiff, Nat.reduceAdd, false_and, and_false, true_and, and_true, reduceIte, nZ0, nZ1, sσ15_6.1, sσ15_6.2, fun a k => (jσ15 a k).1, fun a k => (jσ15 a k).2, pσ15, obσ15] at p1
  try simp only [forall_eq, rII, rIJ, rIP, rJJ, rJI, rJP, rPP, rPI, rPJ, g1, g2, g3, g4, g5, g6, g7, g8, Nat.reduceEqDiff, Nat.reduceAdd, false_and, and_false, true_and, and_true, reduceIte, nZ0, nZ1, sσ15_6.1, sσ15_6.2, fun a k => (jσ15 a k).1, fun a k => (jσ15 a k).2, pσ15, obσ15]
  refine ⟨da, by exact hd, hda, ?_⟩
  refine s_X15_find g rσ15 hda (by (try simp only [rII, rIJ, rIP, rJJ, rJI, rJP, rPP, rPI, rPJ, g1, g2, g3, g4, g5, g6, g7, g8, Nat.reduceEqDiff, Nat.reduceAdd, false_and, and_false, true_and, and_true, reduceIte, nZ0, nZ1, sσ15_6.1, sσ15_6.2, fun a k => (jσ15 a k).1, fun a k => (jσ15 a k).2, pσ15, obσ15]) <;> (first | omega | with_reducible assumption | (unfold rng; omega) | (unfold rng; (repeat' split) <;> omega) | grind)) (fun r19 p2 => ?_)
  try simp only [rII, rIJ, rIP, rJJ, rJI, rJP, rPP, rPI, rPJ, g1, g2, g3, g4, g5, g6, g7, g8, Nat.reduceEqDiff, Nat.reduceAdd, false_and, and_false, true_and, and_true, reduceIte, nZ0, nZ1, sσ15_6.1, sσ15_6.2, fun a k => (jσ15 a k).1, fun a k => (jσ15 a k).2, pσ15, obσ15] at p2
  try simp only [forall_eq, rII, rIJ, rIP, rJJ, rJI, rJP, rPP, rPI, rPJ, g1, g2, g3, g4, g5, g6, g7, g8, Nat.reduceEqDiff, Nat.reduceAdd, false_and, and_false, true_and, and_true, reduceIte, nZ0, nZ1, sσ15_6.1, sσ15_6.2, fun a k => (jσ15 a k).1, fun a k => (jσ15 a k).2, pσ15, obσ15]
  split
  · rename_i hc14
    skip
    unfold w_X16_seeInput_23
    try simp only [forall_eq, rII, rIJ, rIP, rJJ, rJI, rJP, rPP, rPI, rPJ, g1, g2, g3, g4, g5, g6, g7, g8, Nat.reduceEqDiff, Nat.reduceAdd, false_and, and_false, true_and, and_true, reduceIte, nZ0, nZ1, sσ15_6.1, sσ15_6.2, fun a k => (jσ15 a k).1, fun a k => (jσ15 a k).2, pσ15, obσ15]
    refine hQ _ _ ?_ ?_ ?_
    · exact rσ15
    · exact fσ15
    · (try simp only [rII, rIJ, rIP, rJJ, rJI, rJP, rPP, rPI, rPJ, g1, g2, g3, g4, g5, g6, g7, g8, Nat.reduceEqDiff, Nat.reduceAdd, false_and, and_false, true_and, and_true, reduceIte, nZ0, nZ1, sσ15_6.1, sσ15_6.2, fun a k => (jσ15 a k).1, fun a k => (jσ15 a k).2, pσ15, obσ15]) <;> (first | omega | with_reducible assumption | (unfold rng; omega) | (unfold rng; (repeat' split) <;> omega) | grind)
  · rename_i hc14
    skip
    unfold w_X16_seeInput_17
    try simp only [forall_eq, rII, rIJ, rIP, rJJ, rJI, rJP, rPP, rPI, rPJ, g1, g2, g3, g4, g5, g6, g7, g8, Nat.reduceEqDiff, Nat.reduceAdd, false_and, and_false, true_and, and_true, reduceIte, nZ0, nZ1, sσ15_6.1, sσ15_6.2, fun a k => (jσ15 a k).1, fun a k => (jσ15 a k).2, pσ15, obσ15]
    refine s_X16_fail g rσ15 (by (try simp only [rII, rIJ, rIP, rJJ, rJI, rJP, rPP, rPI, rPJ, g1, g2, g3, g4, g5, g6, g7, g8, Nat.reduceEqDiff, Nat.reduceAdd, false_and, and_false, true_and, and_true, reduceIte, nZ0, nZ1, sσ15_6.1, sσ15_6.2, fun a k => (jσ15 a k).1, fun a k => (jσ15 a k).2, pσ15, obσ15]) <;> (first | omega | with_reducible assumption | (unfold rng; omega) | (unfold rng; (repeat' split) <;> omega) | grind)) (fun σ20 r21 rσ20 fc p3 => ?_)
    have fσ20 : Fr ra jx rm [] [4, 5, 7, 8, 9, 10, 11, 12, 13] σ σ20 := Fr.tr fσ15 (Fr.mor (fc) (by decide) (by decide))
    have cσ20_7 := fc.2.1 7 (by decide)
    have sσ20_6 := fσ20.2.1 6 (by decide)
    have jσ20 := fσ20.2.2.1
    have pσ20 := fσ20.2.2.2
    have obσ20 := Fr.ob fσ20 hda (by decide)
    try simp only [rII, rIJ, rIP, rJJ, rJI, rJP, rPP, rPI, rPJ, g1, g2, g3, g4, g5, g6, g7, g8, Nat.reduceEqDiff, Nat.reduceAdd, false_and, and_false, true_and, and_true, reduceIte, nZ0, nZ1, sσ20_6.1, sσ20_6.2, fun a k => (jσ20 a k).1, fun a k => (jσ20 a k).2, pσ20, obσ20, cσ20_7.1, cσ20_7.2] at p3
    try simp only [forall_eq, rII, rIJ, rIP, rJJ, rJI, rJP, rPP, rPI, rPJ, g1, g2, g3, g4, g5, g6, g7, g8, Nat.reduceEqDiff, Nat.reduceAdd, false_and, and_false, true_and, and_true, reduceIte, nZ0, nZ1, sσ20_6.1, sσ20_6.2, fun a k => (jσ20 a k).1, fun a k => (jσ20 a k).2, pσ20, obσ20, cσ20_7.1, cσ20_7.2]
    refine ⟨by first | assumption | simp, ?_⟩
    refine hX _ _ ?_ ?_ ?_
    · exact rσ20
    · exact fσ20
    · exact rfl
set_option maxHeartbeats 4000000 in
theorem s_X16_input {ra : Nat → Nat} {jx : Nat → Nat → Nat} {rm : Nat} {da : Nat} (g : Geo ra jx rm) {σ : Sg} (rσ : Rg ra jx rm σ) (hat : gI σ rm 7 ≤ gI σ rm 6) (hd : gP σ rm 18 = some da) (hda : da = ra 15 ∨ da = ra 16) (hm : 0 ≤ gI σ da 0 ∧ gI σ da 0 ≤ 16) {Q : Sg → Int → Prop} {X : Sg → String → Prop} (hQ : ∀ (σ' : Sg) (r : Int), Rg ra jx rm σ' → Fr ra jx rm [] [4, 5, 7, 8, 9, 10, 11, 12, 13] σ σ' → (gI σ' rm 7 ≤ gI σ rm 6 ∧ 0 ≤ r ∧ r < gI σ da 0) → Q σ' r) (hX : ∀ (σ' : Sg) (E : String), Rg ra jx rm σ' → Fr ra jx rm [] [4, 5, 7, 8, 9, 10, 11, 12, 13] σ σ' → (E = "StreamHouseModel$Fault") → X σ' E) : wp_X16_input ra jx rm σ Q X := by
  obtain ⟨g1, g2, g3, g4, g5, g6, g7, g8⟩ := id g
  have fσ : Fr ra jx rm [] [4, 5, 7, 8, 9, 10, 11, 12, 13] σ σ := Fr.rf
  unfold wp_X16_input
  unfold w_X16_input_0
  try simp only [forall_eq, rII, rIJ, rIP, rJJ, rJI, rJP, rPP, rPI, rPJ, g1, g2, g3, g4, g5, g6, g7, g8, Nat.reduceEqDiff, Nat.reduceAdd, false_and, and_false, true_and, and_true, reduceIte, nZ0, nZ1]
  refine s_X16_seeInput g rσ (by (try simp only [rII, rIJ, rIP, rJJ, rJI, rJP, rPP, rPI, rPJ, g1, g2, g3, g4, g5, g6, g7, g8, Nat.reduceEqDiff, Nat.reduceAdd, false_and, and_false, true_and, and_true, reduceIte, nZ0, nZ1]) <;> (first | omega | with_reducible assumption | (unfold rng; omega) | (unfold rng; (repeat' split) <;> omega) | grind)) (by first | exact hd | (rw [fσ.2.2.2]; exact hd) | (rw [fσ.2.2.2 (by decide)]; exact hd)) hda (by (try simp only [rII, rIJ, rIP, rJJ, rJI, rJP, rPP, rPI, rPJ, g1, g2, g3, g4, g5, g6, g7, g8, Nat.reduceEqDiff, Nat.reduceAdd, false_and, and_false, true_and, and_true, reduceIte, nZ0, nZ1]) <;> (first | omega | with_reducible assumption | (unfold rng; omega) | (unfold rng; (repeat' split) <;> omega) | grind)) (fun σ7 r8 rσ7 fc p1 => ?_) (fun σx E rx fx px => hX _ _ rx (Fr.tr fσ (Fr.mor (fx) (by decide) (by decide))) px)
  have fσ7 : Fr ra jx rm [] [4, 5, 7, 8, 9, 10, 11, 12, 13] σ σ7 := Fr.tr fσ (Fr.mor (fc) (by decide) (by decide))
  have sσ7_6 := fσ7.2.1 6 (by decide)
  have jσ7 := fσ7.2.2.1
  have obσ7 := Fr.ob fσ7 hda (by decide)
  try simp only [rII, rIJ, rIP, rJJ, rJI, rJP, rPP, rPI, rPJ, g1, g2, g3, g4, g5, g6, g7, g8, Nat.reduceEqDiff, Nat.reduceAdd, false_and, and_false, true_and, and_true, reduceIte, nZ0, nZ1, sσ7_6.1, sσ7_6.2, fun a k => (jσ7 a k).1, fun a k => (jσ7 a k).2, obσ7] at p1
  try simp only [forall_eq, rII, rIJ, rIP, rJJ, rJI, rJP, rPP, rPI, rPJ, g1, g2, g3, g4, g5, g6, g7, g8, Nat.reduceEqDiff, Nat.reduceAdd, false_and, and_false, true_and, and_true, reduceIte, nZ0, nZ1, sσ7_6.1, sσ7_6.2, fun a k => (jσ7 a k).1, fun a k => (jσ7 a k).2, obσ7]
  refine s_X16_take g rσ7 (fun σ9 _ rσ9 fc p2 => ?_)
  have fσ9 : Fr ra jx rm [] [4, 5, 7, 8, 9, 10, 11, 12, 13] σ σ9 := Fr.tr fσ7 (Fr.mor (fc) (by decide) (by decide))
  have cσ9_7 := fc.2.1 7 (by decide)
  have sσ9_6 := fσ9.2.1 6 (by decide)
  have jσ9 := fσ9.2.2.1
  have obσ9 := Fr.ob fσ9 hda (by decide)
  try simp only [rII, rIJ, rIP, rJJ, rJI, rJP, rPP, rPI, rPJ, g1, g2, g3, g4, g5, g6, g7, g8, Nat.reduceEqDiff, Nat.reduceAdd, false_and, and_false, true_and, and_true, reduceIte, nZ0, nZ1, sσ9_6.1, sσ9_6.2, fun a k => (jσ9 a k).1, fun a k => (jσ9 a k).2, obσ9, cσ9_7.1, cσ9_7.2] at p2
  try simp only [forall_eq, rII, rIJ, rIP, rJJ, rJI, rJP, rPP, rPI, rPJ, g1, g2, g3, g4, g5, g6, g7, g8, Nat.reduceEqDiff, Nat.reduceAdd, false_and, and_false, true_and, and_true, reduceIte, nZ0, nZ1, sσ9_6.1, sσ9_6.2, fun a k => (jσ9 a k).1, fun a k => (jσ9 a k).2, obσ9, cσ9_7.1, cσ9_7.2]
  refine hQ _ _ ?_ ?_ ?_
  · exact rσ9
  · exact fσ9
  · (try simp only [rII, rIJ, rIP, rJJ, rJI, rJP, rPP, rPI, rPJ, g1, g2, g3, g4, g5, g6, g7, g8, Nat.reduceEqDiff, Nat.reduceAdd, false_and, and_false, true_and, and_true, reduceIte, nZ0, nZ1, sσ9_6.1, sσ9_6.2, fun a k => (jσ9 a k).1, fun a k => (jσ9 a k).2, obσ9, cσ9_7.1, cσ9_7.2]) <;> (first | omega | with_reducible assumption | (unfold rng; omega) | (unfold rng; (repeat' split) <;> omega) | grind)
set_option maxHeartbeats 4000000 in
theorem s_X16_newColumn {ra : Nat → Nat} {jx : Nat → Nat → Nat} {rm : Nat} {da : Nat} (g : Geo ra jx rm) {σ : Sg} {v1 : Int} {v2 : Int} (rσ : Rg ra jx rm σ) (hat : gI σ rm 7 ≤ gI σ rm 6) (hd : gP σ rm 18 = some da) (hda : da = ra 15 ∨ da = ra 16) (h1 : 0 ≤ v1 ∧ v1 < 16) (h2 : 0 ≤ v2 ∧ v2 ≤ 8) (hc : gI σ (jx da 6) v1.toNat ≤ v2) {Q : Sg → Unit → Prop} {X : Sg → String → Prop} (hQ : ∀ (σ' : Sg) (r : Unit), Rg ra jx rm σ' → Fj ra jx rm [] [4, 5, 7, 8, 9, 10, 11, 12, 13] [6, 7] σ σ' → (gI σ' rm 7 ≤ gI σ rm 6 ∧ gI σ' (jx da 6) v1.toNat = gI σ (jx da 6) v1.toNat + 1 ∧ gI σ (jx da 6) v1.toNat < v2 ∧ (∀ i : Nat, i ≠ v1.toNat → gI σ' (jx da 6) i = gI σ (jx da 6) i)) → Q σ' r) (hX : ∀ (σ' : Sg) (E : String), Rg ra jx rm σ' → Fj ra jx rm [] [4, 5, 7, 8, 9, 10, 11, 12, 13] [6, 7] σ σ' → (E = "StreamHouseModel$Fault") → X σ' E) : wp_X16_newColumn ra jx rm v1 v2 σ Q X := by
  obtain ⟨g1, g2, g3, g4, g5, g6, g7, g8⟩ := id g
  have fσ : Fj ra jx rm [] [4, 5, 7, 8, 9, 10, 11, 12, 13] [6, 7] σ σ := Fj.rf
  unfold wp_X16_newColumn
  unfold w_X16_newColumn_0
  try simp only [forall_eq, rII, rIJ, rIP, rJJ, rJI, rJP, rPP, rPI, rPJ, g1, g2, g3, g4, g5, g6, g7, g8, Nat.reduceEqDiff, Nat.reduceAdd, false_and, and_false, true_and, and_true, reduceIte, nZ0, nZ1]
  refine s_X16_seeName g rσ (by (try simp only [rII, rIJ, rIP, rJJ, rJI, rJP, rPP, rPI, rPJ, g1, g2, g3, g4, g5, g6, g7, g8, Nat.reduceEqDiff, Nat.reduceAdd, false_and, and_false, true_and, and_true, reduceIte, nZ0, nZ1]) <;> (first | omega | with_reducible assumption | (unfold rng; omega) | (unfold rng; (repeat' split) <;> omega) | grind)) (fun σ27 r28 rσ27 fc p1 => ?_) (fun σx E rx fx px => hX _ _ rx (Fj.tr fσ (Fj.mor (fx.j) (by decide) (by decide) (by decide))) px)
  have fσ27 : Fj ra jx rm [] [4, 5, 7, 8, 9, 10, 11, 12, 13] [6, 7] σ σ27 := Fj.tr fσ (Fj.mor (fc.j) (by decide) (by decide) (by decide))
  have gσ27_6 := fun a => fc.2.2.1 a 6
  have sσ27_6 := fσ27.2.1 6 (by decide)
  have pσ27 := fσ27.2.2.2 (by decide)
  have obσ27 := Fj.ob fσ27 hda (by decide)
  try simp only [rII, rIJ, rIP, rJJ, rJI, rJP, rPP, rPI, rPJ, g1, g2, g3, g4, g5, g6, g7, g8, Nat.reduceEqDiff, Nat.reduceAdd, false_and, and_false, true_and, and_true, reduceIte, nZ0, nZ1, sσ27_6.1, sσ27_6.2, pσ27, obσ27, fun a => (gσ27_6 a).1, fun a => (gσ27_6 a).2] at p1
  try simp only [forall_eq, rII, rIJ, rIP, rJJ, rJI, rJP, rPP, rPI, rPJ, g1, g2, g3, g4, g5, g6, g7, g8, Nat.reduceEqDiff, Nat.reduceAdd, false_and, and_false, true_and, and_true, reduceIte, nZ0, nZ1, sσ27_6.1, sσ27_6.2, pσ27, obσ27, fun a => (gσ27_6 a).1, fun a => (gσ27_6 a).2]
  refine ⟨da, by exact hd, hda, ?_⟩
  refine s_X15_column g rσ27 hda (by (try simp only [rII, rIJ, rIP, rJJ, rJI, rJP, rPP, rPI, rPJ, g1, g2, g3, g4, g5, g6, g7, g8, Nat.reduceEqDiff, Nat.reduceAdd, false_and, and_false, true_and, and_true, reduceIte, nZ0, nZ1, sσ27_6.1, sσ27_6.2, pσ27, obσ27, fun a => (gσ27_6 a).1, fun a => (gσ27_6 a).2]) <;> (first | omega | with_reducible assumption | (unfold rng; omega) | (unfold rng; (repeat' split) <;> omega) | grind)) (fun r31 p2 => ?_)
  try simp only [rII, rIJ, rIP, rJJ, rJI, rJP, rPP, rPI, rPJ, g1, g2, g3, g4, g5, g6, g7, g8, Nat.reduceEqDiff, Nat.reduceAdd, false_and, and_false, true_and, and_true, reduceIte, nZ0, nZ1, sσ27_6.1, sσ27_6.2, pσ27, obσ27, fun a => (gσ27_6 a).1, fun a => (gσ27_6 a).2] at p2
  try simp only [forall_eq, rII, rIJ, rIP, rJJ, rJI, rJP, rPP, rPI, rPJ, g1, g2, g3, g4, g5, g6, g7, g8, Nat.reduceEqDiff, Nat.reduceAdd, false_and, and_false, true_and, and_true, reduceIte, nZ0, nZ1, sσ27_6.1, sσ27_6.2, pσ27, obσ27, fun a => (gσ27_6 a).1, fun a => (gσ27_6 a).2]
  split
  · rename_i hc15
    skip
    unfold w_X16_newColumn_25
    try simp only [forall_eq, rII, rIJ, rIP, rJJ, rJI, rJP, rPP, rPI, rPJ, g1, g2, g3, g4, g5, g6, g7, g8, Nat.reduceEqDiff, Nat.reduceAdd, false_and, and_false, true_and, and_true, reduceIte, nZ0, nZ1, sσ27_6.1, sσ27_6.2, pσ27, obσ27, fun a => (gσ27_6 a).1, fun a => (gσ27_6 a).2]
    refine ⟨da, by exact hd, hda, ?_⟩
    refine ⟨by (first | omega | with_reducible assumption | (unfold rng; omega) | (unfold rng; (repeat' split) <;> omega) | grind), ?_⟩
    have q3 := rσ.2.2.1 da 6 (v1.toNat); simp only [rgJ] at q3
    split
    · rename_i hc35
      skip
      unfold w_X16_newColumn_45
      try simp only [forall_eq, rII, rIJ, rIP, rJJ, rJI, rJP, rPP, rPI, rPJ, g1, g2, g3, g4, g5, g6, g7, g8, Nat.reduceEqDiff, Nat.reduceAdd, false_and, and_false, true_and, and_true, reduceIte, nZ0, nZ1, sσ27_6.1, sσ27_6.2, pσ27, obσ27, fun a => (gσ27_6 a).1, fun a => (gσ27_6 a).2]
      refine ⟨da, by exact hd, hda, ?_⟩
      refine s_X15_add g rσ27 hda (by (try simp only [rII, rIJ, rIP, rJJ, rJI, rJP, rPP, rPI, rPJ, g1, g2, g3, g4, g5, g6, g7, g8, Nat.reduceEqDiff, Nat.reduceAdd, false_and, and_false, true_and, and_true, reduceIte, nZ0, nZ1, sσ27_6.1, sσ27_6.2, pσ27, obσ27, fun a => (gσ27_6 a).1, fun a => (gσ27_6 a).2]) <;> (first | omega | with_reducible assumption | (unfold rng; omega) | (unfold rng; (repeat' split) <;> omega) | grind)) (by (try simp only [rII, rIJ, rIP, rJJ, rJI, rJP, rPP, rPI, rPJ, g1, g2, g3, g4, g5, g6, g7, g8, Nat.reduceEqDiff, Nat.reduceAdd, false_and, and_false, true_and, and_true, reduceIte, nZ0, nZ1, sσ27_6.1, sσ27_6.2, pσ27, obσ27, fun a => (gσ27_6 a).1, fun a => (gσ27_6 a).2]) <;> (first | omega | with_reducible assumption | (unfold rng; omega) | (unfold rng; (repeat' split) <;> omega) | grind)) (fun σ34 _ rσ34 fc p4 => ?_)
      have fσ34 : Fj ra jx rm [] [4, 5, 7, 8, 9, 10, 11, 12, 13] [6, 7] σ σ34 := Fj.tr fσ27 (Fj.mor (fc) (by decide) (by decide) (by decide))
      have cσ34_7 := fc.2.1 7 (by decide)
      have sσ34_6 := fσ34.2.1 6 (by decide)
      have pσ34 := fσ34.2.2.2 (by decide)
      have obσ34 := Fj.ob fσ34 hda (by decide)
      try simp only [rII, rIJ, rIP, rJJ, rJI, rJP, rPP, rPI, rPJ, g1, g2, g3, g4, g5, g6, g7, g8, Nat.reduceEqDiff, Nat.reduceAdd, false_and, and_false, true_and, and_true, reduceIte, nZ0, nZ1, sσ34_6.1, sσ34_6.2, pσ34, obσ34, fun a => (gσ27_6 a).1, fun a => (gσ27_6 a).2, cσ34_7.1, cσ34_7.2] at p4
      try simp only [forall_eq, rII, rIJ, rIP, rJJ, rJI, rJP, rPP, rPI, rPJ, g1, g2, g3, g4, g5, g6, g7, g8, Nat.reduceEqDiff, Nat.reduceAdd, false_and, and_false, true_and, and_true, reduceIte, nZ0, nZ1, sσ34_6.1, sσ34_6.2, pσ34, obσ34, fun a => (gσ27_6 a).1, fun a => (gσ27_6 a).2, cσ34_7.1, cσ34_7.2]
      refine s_X16_take g rσ34 (fun σ35 _ rσ35 fc p5 => ?_)
      have fσ35 : Fj ra jx rm [] [4, 5, 7, 8, 9, 10, 11, 12, 13] [6, 7] σ σ35 := Fj.tr fσ34 (Fj.mor (fc.j) (by decide) (by decide) (by decide))
      have cσ35_7 := fc.2.1 7 (by decide)
      have gσ35_6 := fun a => fc.2.2.1 a 6
      have sσ35_6 := fσ35.2.1 6 (by decide)
      have pσ35 := fσ35.2.2.2 (by decide)
      have obσ35 := Fj.ob fσ35 hda (by decide)
      try simp only [rII, rIJ, rIP, rJJ, rJI, rJP, rPP, rPI, rPJ, g1, g2, g3, g4, g5, g6, g7, g8, Nat.reduceEqDiff, Nat.reduceAdd, false_and, and_false, true_and, and_true, reduceIte, nZ0, nZ1, sσ35_6.1, sσ35_6.2, pσ35, obσ35, fun a => (gσ27_6 a).1, fun a => (gσ27_6 a).2, cσ34_7.1, cσ34_7.2, cσ35_7.1, cσ35_7.2, fun a => (gσ35_6 a).1, fun a => (gσ35_6 a).2] at p5
      try simp only [forall_eq, rII, rIJ, rIP, rJJ, rJI, rJP, rPP, rPI, rPJ, g1, g2, g3, g4, g5, g6, g7, g8, Nat.reduceEqDiff, Nat.reduceAdd, false_and, and_false, true_and, and_true, reduceIte, nZ0, nZ1, sσ35_6.1, sσ35_6.2, pσ35, obσ35, fun a => (gσ27_6 a).1, fun a => (gσ27_6 a).2, cσ34_7.1, cσ34_7.2, cσ35_7.1, cσ35_7.2, fun a => (gσ35_6 a).1, fun a => (gσ35_6 a).2]
      refine hQ _ _ ?_ ?_ ?_
      · exact rσ35
      · exact fσ35
      · (try simp only [rII, rIJ, rIP, rJJ, rJI, rJP, rPP, rPI, rPJ, g1, g2, g3, g4, g5, g6, g7, g8, Nat.reduceEqDiff, Nat.reduceAdd, false_and, and_false, true_and, and_true, reduceIte, nZ0, nZ1, sσ35_6.1, sσ35_6.2, pσ35, obσ35, fun a => (gσ27_6 a).1, fun a => (gσ27_6 a).2, cσ34_7.1, cσ34_7.2, cσ35_7.1, cσ35_7.2, fun a => (gσ35_6 a).1, fun a => (gσ35_6 a).2]) <;> (first | omega | with_reducible assumption | (unfold rng; omega) | (unfold rng; (repeat' split) <;> omega) | grind)
    · rename_i hc35
      skip
      unfold w_X16_newColumn_38
      try simp only [forall_eq, rII, rIJ, rIP, rJJ, rJI, rJP, rPP, rPI, rPJ, g1, g2, g3, g4, g5, g6, g7, g8, Nat.reduceEqDiff, Nat.reduceAdd, false_and, and_false, true_and, and_true, reduceIte, nZ0, nZ1, sσ27_6.1, sσ27_6.2, pσ27, obσ27, fun a => (gσ27_6 a).1, fun a => (gσ27_6 a).2]
      refine s_X16_fail g rσ27 (by (try simp only [rII, rIJ, rIP, rJJ, rJI, rJP, rPP, rPI, rPJ, g1, g2, g3, g4, g5, g6, g7, g8, Nat.reduceEqDiff, Nat.reduceAdd, false_and, and_false, true_and, and_true, reduceIte, nZ0, nZ1, sσ27_6.1, sσ27_6.2, pσ27, obσ27, fun a => (gσ27_6 a).1, fun a => (gσ27_6 a).2]) <;> (first | omega | with_reducible assumption | (unfold rng; omega) | (unfold rng; (repeat' split) <;> omega) | grind)) (fun σ36 r37 rσ36 fc p6 => ?_)
      have fσ36 : Fj ra jx rm [] [4, 5, 7, 8, 9, 10, 11, 12, 13] [6, 7] σ σ36 := Fj.tr fσ27 (Fj.mor (fc.j) (by decide) (by decide) (by decide))
      have cσ36_7 := fc.2.1 7 (by decide)
      have gσ36_6 := fun a => fc.2.2.1 a 6
      have sσ36_6 := fσ36.2.1 6 (by decide)
      have pσ36 := fσ36.2.2.2 (by decide)
      have obσ36 := Fj.ob fσ36 hda (by decide)
      try simp only [rII, rIJ, rIP, rJJ, rJI, rJP, rPP, rPI, rPJ, g1, g2, g3, g4, g5, g6, g7, g8, Nat.reduceEqDiff, Nat.reduceAdd, false_and, and_false, true_and, and_true, reduceIte, nZ0, nZ1, sσ36_6.1, sσ36_6.2, pσ36, obσ36, fun a => (gσ27_6 a).1, fun a => (gσ27_6 a).2, cσ36_7.1, cσ36_7.2, fun a => (gσ36_6 a).1, fun a => (gσ36_6 a).2] at p6
      try simp only [forall_eq, rII, rIJ, rIP, rJJ, rJI, rJP, rPP, rPI, rPJ, g1, g2, g3, g4, g5, g6, g7, g8, Nat.reduceEqDiff, Nat.reduceAdd, false_and, and_false, true_and, and_true, reduceIte, nZ0, nZ1, sσ36_6.1, sσ36_6.2, pσ36, obσ36, fun a => (gσ27_6 a).1, fun a => (gσ27_6 a).2, cσ36_7.1, cσ36_7.2, fun a => (gσ36_6 a).1, fun a => (gσ36_6 a).2]
      refine ⟨by first | assumption | simp, ?_⟩
      refine hX _ _ ?_ ?_ ?_
      · exact rσ36
      · exact fσ36
      · exact rfl
  · rename_i hc15
    skip
    unfold w_X16_newColumn_18
    try simp only [forall_eq, rII, rIJ, rIP, rJJ, rJI, rJP, rPP, rPI, rPJ, g1, g2, g3, g4, g5, g6, g7, g8, Nat.reduceEqDiff, Nat.reduceAdd, false_and, and_false, true_and, and_true, reduceIte, nZ0, nZ1, sσ27_6.1, sσ27_6.2, pσ27, obσ27, fun a => (gσ27_6 a).1, fun a => (gσ27_6 a).2]
    refine s_X16_fail g rσ27 (by (try simp only [rII, rIJ, rIP, rJJ, rJI, rJP, rPP, rPI, rPJ, g1, g2, g3, g4, g5, g6, g7, g8, Nat.reduceEqDiff, Nat.reduceAdd, false_and, and_false, true_and, and_true, reduceIte, nZ0, nZ1, sσ27_6.1, sσ27_6.2, pσ27, obσ27, fun a => (gσ27_6 a).1, fun a => (gσ27_6 a).2]) <;> (first | omega | with_reducible assumption | (unfold rng; omega) | (unfold rng; (repeat' split) <;> omega) | grind)) (fun σ38 r39 rσ38 fc p7 => ?_)
    have fσ38 : Fj ra jx rm [] [4, 5, 7, 8, 9, 10, 11, 12, 13] [6, 7] σ σ38 := Fj.tr fσ27 (Fj.mor (fc.j) (by decide) (by decide) (by decide))
    have cσ38_7 := fc.2.1 7 (by decide)
    have gσ38_6 := fun a => fc.2.2.1 a 6
    have sσ38_6 := fσ38.2.1 6 (by decide)
    have pσ38 := fσ38.2.2.2 (by decide)
    have obσ38 := Fj.ob fσ38 hda (by decide)
    try simp only [rII, rIJ, rIP, rJJ, rJI, rJP, rPP, rPI, rPJ, g1, g2, g3, g4, g5, g6, g7, g8, Nat.reduceEqDiff, Nat.reduceAdd, false_and, and_false, true_and, and_true, reduceIte, nZ0, nZ1, sσ38_6.1, sσ38_6.2, pσ38, obσ38, fun a => (gσ27_6 a).1, fun a => (gσ27_6 a).2, cσ38_7.1, cσ38_7.2, fun a => (gσ38_6 a).1, fun a => (gσ38_6 a).2] at p7
    try simp only [forall_eq, rII, rIJ, rIP, rJJ, rJI, rJP, rPP, rPI, rPJ, g1, g2, g3, g4, g5, g6, g7, g8, Nat.reduceEqDiff, Nat.reduceAdd, false_and, and_false, true_and, and_true, reduceIte, nZ0, nZ1, sσ38_6.1, sσ38_6.2, pσ38, obσ38, fun a => (gσ27_6 a).1, fun a => (gσ27_6 a).2, cσ38_7.1, cσ38_7.2, fun a => (gσ38_6 a).1, fun a => (gσ38_6 a).2]
    refine ⟨by first | assumption | simp, ?_⟩
    refine hX _ _ ?_ ?_ ?_
    · exact rσ38
    · exact fσ38
    · exact rfl
set_option maxHeartbeats 4000000 in
theorem s_X16_signed {ra : Nat → Nat} {jx : Nat → Nat → Nat} {rm : Nat} (g : Geo ra jx rm) {σ : Sg} {v1 : Int} {v2 : Int64} (rσ : Rg ra jx rm σ) (hat : gI σ rm 7 ≤ gI σ rm 6) (b1 : (v1 = 0 ∨ v1 = 1)) {Q : Sg → Int64 → Prop} {X : Sg → String → Prop} (hQ : ∀ (σ' : Sg) (r : Int64), Rg ra jx rm σ' → Fr ra jx rm [] [4, 5, 7, 8, 9, 10, 11, 12, 13] σ σ' → (gI σ' rm 7 ≤ gI σ rm 6) → Q σ' r) (hX : ∀ (σ' : Sg) (E : String), Rg ra jx rm σ' → Fr ra jx rm [] [4, 5, 7, 8, 9, 10, 11, 12, 13] σ σ' → (E = "StreamHouseModel$Fault") → X σ' E) : wp_X16_signed ra jx rm v1 v2 σ Q X := by
  obtain ⟨g1, g2, g3, g4, g5, g6, g7, g8⟩ := id g
  have fσ : Fr ra jx rm [] [4, 5, 7, 8, 9, 10, 11, 12, 13] σ σ := Fr.rf
  unfold wp_X16_signed
  unfold w_X16_signed_0
  try simp only [forall_eq, rII, rIJ, rIP, rJJ, rJI, rJP, rPP, rPI, rPJ, g1, g2, g3, g4, g5, g6, g7, g8, Nat.reduceEqDiff, Nat.reduceAdd, false_and, and_false, true_and, and_true, reduceIte, nZ0, nZ1]
  refine s_X16_see g rσ (by (try simp only [rII, rIJ, rIP, rJJ, rJI, rJP, rPP, rPI, rPJ, g1, g2, g3, g4, g5, g6, g7, g8, Nat.reduceEqDiff, Nat.reduceAdd, false_and, and_false, true_and, and_true, reduceIte, nZ0, nZ1]) <;> (first | omega | with_reducible assumption | (unfold rng; omega) | (unfold rng; (repeat' split) <;> omega) | grind)) (fun σ17 _ rσ17 fc p1 => ?_) (fun σx E rx fx px => hX _ _ rx (Fr.tr fσ (Fr.mor (fx) (by decide) (by decide))) px)
  have fσ17 : Fr ra jx rm [] [4, 5, 7, 8, 9, 10, 11, 12, 13] σ σ17 := Fr.tr fσ (Fr.mor (fc) (by decide) (by decide))
  have sσ17_6 := fσ17.2.1 6 (by decide)
  have jσ17 := fσ17.2.2.1
  try simp only [rII, rIJ, rIP, rJJ, rJI, rJP, rPP, rPI, rPJ, g1, g2, g3, g4, g5, g6, g7, g8, Nat.reduceEqDiff, Nat.reduceAdd, false_and, and_false, true_and, and_true, reduceIte, nZ0, nZ1, sσ17_6.1, sσ17_6.2, fun a k => (jσ17 a k).1, fun a k => (jσ17 a k).2] at p1
  try simp only [forall_eq, rII, rIJ, rIP, rJJ, rJI, rJP, rPP, rPI, rPJ, g1, g2, g3, g4, g5, g6, g7, g8, Nat.reduceEqDiff, Nat.reduceAdd, false_and, and_false, true_and, and_true, reduceIte, nZ0, nZ1, sσ17_6.1, sσ17_6.2, fun a k => (jσ17 a k).1, fun a k => (jσ17 a k).2]
  have q2 := rσ17.2.1 9; simp only [rgS] at q2
  split
  · rename_i hc10
    skip
    unfold w_X16_signed_17
    try simp only [forall_eq, rII, rIJ, rIP, rJJ, rJI, rJP, rPP, rPI, rPJ, g1, g2, g3, g4, g5, g6, g7, g8, Nat.reduceEqDiff, Nat.reduceAdd, false_and, and_false, true_and, and_true, reduceIte, nZ0, nZ1, sσ17_6.1, sσ17_6.2, fun a k => (jσ17 a k).1, fun a k => (jσ17 a k).2]
    unfold w_X16_signed_18
    try simp only [forall_eq, rII, rIJ, rIP, rJJ, rJI, rJP, rPP, rPI, rPJ, g1, g2, g3, g4, g5, g6, g7, g8, Nat.reduceEqDiff, Nat.reduceAdd, false_and, and_false, true_and, and_true, reduceIte, nZ0, nZ1, sσ17_6.1, sσ17_6.2, fun a k => (jσ17 a k).1, fun a k => (jσ17 a k).2]
    try rw [if_pos (by decide)]
    unfold w_X16_signed_29
    try simp only [forall_eq, rII, rIJ, rIP, rJJ, rJI, rJP, rPP, rPI, rPJ, g1, g2, g3, g4, g5, g6, g7, g8, Nat.reduceEqDiff, Nat.reduceAdd, false_and, and_false, true_and, and_true, reduceIte, nZ0, nZ1, sσ17_6.1, sσ17_6.2, fun a k => (jσ17 a k).1, fun a k => (jσ17 a k).2]
    refine s_X16_see g rσ17 (by (try simp only [rII, rIJ, rIP, rJJ, rJI, rJP, rPP, rPI, rPJ, g1, g2, g3, g4, g5, g6, g7, g8, Nat.reduceEqDiff, Nat.reduceAdd, false_and, and_false, true_and, and_true, reduceIte, nZ0, nZ1, sσ17_6.1, sσ17_6.2, fun a k => (jσ17 a k).1, fun a k => (jσ17 a k).2]) <;> (first | omega | with_reducible assumption | (unfold rng; omega) | (unfold rng; (repeat' split) <;> omega) | grind)) (fun σ18 _ rσ18 fc p3 => ?_) (fun σx E rx fx px => hX _ _ rx (Fr.tr fσ17 (Fr.mor (fx) (by decide) (by decide))) px)
    have fσ18 : Fr ra jx rm [] [4, 5, 7, 8, 9, 10, 11, 12, 13] σ σ18 := Fr.tr fσ17 (Fr.mor (fc) (by decide) (by decide))
    have sσ18_6 := fσ18.2.1 6 (by decide)
    have jσ18 := fσ18.2.2.1
    try simp only [rII, rIJ, rIP, rJJ, rJI, rJP, rPP, rPI, rPJ, g1, g2, g3, g4, g5, g6, g7, g8, Nat.reduceEqDiff, Nat.reduceAdd, false_and, and_false, true_and, and_true, reduceIte, nZ0, nZ1, sσ18_6.1, sσ18_6.2, fun a k => (jσ18 a k).1, fun a k => (jσ18 a k).2] at p3
    try simp only [forall_eq, rII, rIJ, rIP, rJJ, rJI, rJP, rPP, rPI, rPJ, g1, g2, g3, g4, g5, g6, g7, g8, Nat.reduceEqDiff, Nat.reduceAdd, false_and, and_false, true_and, and_true, reduceIte, nZ0, nZ1, sσ18_6.1, sσ18_6.2, fun a k => (jσ18 a k).1, fun a k => (jσ18 a k).2]
    have q4 := rσ18.2.1 9; simp only [rgS] at q4
    split
    · rename_i hc38
      skip
      unfold w_X16_signed_46
      try simp only [forall_eq, rII, rIJ, rIP, rJJ, rJI, rJP, rPP, rPI, rPJ, g1, g2, g3, g4, g5, g6, g7, g8, Nat.reduceEqDiff, Nat.reduceAdd, false_and, and_false, true_and, and_true, reduceIte, nZ0, nZ1, sσ18_6.1, sσ18_6.2, fun a k => (jσ18 a k).1, fun a k => (jσ18 a k).2]
      try rw [if_pos (by decide)]
      unfold w_X16_signed_59
      try simp only [forall_eq, rII, rIJ, rIP, rJJ, rJI, rJP, rPP, rPI, rPJ, g1, g2, g3, g4, g5, g6, g7, g8, Nat.reduceEqDiff, Nat.reduceAdd, false_and, and_false, true_and, and_true, reduceIte, nZ0, nZ1, sσ18_6.1, sσ18_6.2, fun a k => (jσ18 a k).1, fun a k => (jσ18 a k).2]
      unfold w_X16_signed_63
      try simp only [forall_eq, rII, rIJ, rIP, rJJ, rJI, rJP, rPP, rPI, rPJ, g1, g2, g3, g4, g5, g6, g7, g8, Nat.reduceEqDiff, Nat.reduceAdd, false_and, and_false, true_and, and_true, reduceIte, nZ0, nZ1, sσ18_6.1, sσ18_6.2, fun a k => (jσ18 a k).1, fun a k => (jσ18 a k).2]
      split
      · rename_i hc73
        skip
        unfold w_X16_signed_87
        try simp only [forall_eq, rII, rIJ, rIP, rJJ, rJI, rJP, rPP, rPI, rPJ, g1, g2, g3, g4, g5, g6, g7, g8, Nat.reduceEqDiff, Nat.reduceAdd, false_and, and_false, true_and, and_true, reduceIte, nZ0, nZ1, sσ18_6.1, sσ18_6.2, fun a k => (jσ18 a k).1, fun a k => (jσ18 a k).2]
        refine s_X16_fail g rσ18 (by (try simp only [rII, rIJ, rIP, rJJ, rJI, rJP, rPP, rPI, rPJ, g1, g2, g3, g4, g5, g6, g7, g8, Nat.reduceEqDiff, Nat.reduceAdd, false_and, and_false, true_and, and_true, reduceIte, nZ0, nZ1, sσ18_6.1, sσ18_6.2, fun a k => (jσ18 a k).1, fun a k => (jσ18 a k).2]) <;> (first | omega | with_reducible assumption | (unfold rng; omega) | (unfold rng; (repeat' split) <;> omega) | grind)) (fun σ19 r20 rσ19 fc p5 => ?_)
        have fσ19 : Fr ra jx rm [] [4, 5, 7, 8, 9, 10, 11, 12, 13] σ σ19 := Fr.tr fσ18 (Fr.mor (fc) (by decide) (by decide))
        have cσ19_7 := fc.2.1 7 (by decide)
        have cσ19_9 := fc.2.1 9 (by decide)
        have cσ19_13 := fc.2.1 13 (by decide)
        have sσ19_6 := fσ19.2.1 6 (by decide)
        have jσ19 := fσ19.2.2.1
        try simp only [rII, rIJ, rIP, rJJ, rJI, rJP, rPP, rPI, rPJ, g1, g2, g3, g4, g5, g6, g7, g8, Nat.reduceEqDiff, Nat.reduceAdd, false_and, and_false, true_and, and_true, reduceIte, nZ0, nZ1, sσ19_6.1, sσ19_6.2, fun a k => (jσ19 a k).1, fun a k => (jσ19 a k).2, cσ19_7.1, cσ19_7.2, cσ19_9.1, cσ19_9.2, cσ19_13.1, cσ19_13.2] at p5
        try simp only [forall_eq, rII, rIJ, rIP, rJJ, rJI, rJP, rPP, rPI, rPJ, g1, g2, g3, g4, g5, g6, g7, g8, Nat.reduceEqDiff, Nat.reduceAdd, false_and, and_false, true_and, and_true, reduceIte, nZ0, nZ1, sσ19_6.1, sσ19_6.2, fun a k => (jσ19 a k).1, fun a k => (jσ19 a k).2, cσ19_7.1, cσ19_7.2, cσ19_9.1, cσ19_9.2, cσ19_13.1, cσ19_13.2]
        refine ⟨by first | assumption | simp, ?_⟩
        refine hX _ _ ?_ ?_ ?_
        · exact rσ19
        · exact fσ19
        · exact rfl
      · rename_i hc73
        skip
        unfold w_X16_signed_76
        try simp only [forall_eq, rII, rIJ, rIP, rJJ, rJI, rJP, rPP, rPI, rPJ, g1, g2, g3, g4, g5, g6, g7, g8, Nat.reduceEqDiff, Nat.reduceAdd, false_and, and_false, true_and, and_true, reduceIte, nZ0, nZ1, sσ18_6.1, sσ18_6.2, fun a k => (jσ18 a k).1, fun a k => (jσ18 a k).2]
        split
        · rename_i hc77
          skip
          unfold w_X16_signed_94
          try simp only [forall_eq, rII, rIJ, rIP, rJJ, rJI, rJP, rPP, rPI, rPJ, g1, g2, g3, g4, g5, g6, g7, g8, Nat.reduceEqDiff, Nat.reduceAdd, false_and, and_false, true_and, and_true, reduceIte, nZ0, nZ1, sσ18_6.1, sσ18_6.2, fun a k => (jσ18 a k).1, fun a k => (jσ18 a k).2]
          refine s_X16_take g rσ18 (fun σ21 _ rσ21 fc p6 => ?_)
          have fσ21 : Fr ra jx rm [] [4, 5, 7, 8, 9, 10, 11, 12, 13] σ σ21 := Fr.tr fσ18 (Fr.mor (fc) (by decide) (by decide))
          have cσ21_7 := fc.2.1 7 (by decide)
          have cσ21_9 := fc.2.1 9 (by decide)
          have cσ21_13 := fc.2.1 13 (by decide)
          have sσ21_6 := fσ21.2.1 6 (by decide)
          have jσ21 := fσ21.2.2.1
          try simp only [rII, rIJ, rIP, rJJ, rJI, rJP, rPP, rPI, rPJ, g1, g2, g3, g4, g5, g6, g7, g8, Nat.reduceEqDiff, Nat.reduceAdd, false_and, and_false, true_and, and_true, reduceIte, nZ0, nZ1, sσ21_6.1, sσ21_6.2, fun a k => (jσ21 a k).1, fun a k => (jσ21 a k).2, cσ21_7.1, cσ21_7.2, cσ21_9.1, cσ21_9.2, cσ21_13.1, cσ21_13.2] at p6
          try simp only [forall_eq, rII, rIJ, rIP, rJJ, rJI, rJP, rPP, rPI, rPJ, g1, g2, g3, g4, g5, g6, g7, g8, Nat.reduceEqDiff, Nat.reduceAdd, false_and, and_false, true_and, and_true, reduceIte, nZ0, nZ1, sσ21_6.1, sσ21_6.2, fun a k => (jσ21 a k).1, fun a k => (jσ21 a k).2, cσ21_7.1, cσ21_7.2, cσ21_9.1, cσ21_9.2, cσ21_13.1, cσ21_13.2]
          refine hQ _ _ ?_ ?_ ?_
          · exact rσ21
          · exact fσ21
          · (try simp only [rII, rIJ, rIP, rJJ, rJI, rJP, rPP, rPI, rPJ, g1, g2, g3, g4, g5, g6, g7, g8, Nat.reduceEqDiff, Nat.reduceAdd, false_and, and_false, true_and, and_true, reduceIte, nZ0, nZ1, sσ21_6.1, sσ21_6.2, fun a k => (jσ21 a k).1, fun a k => (jσ21 a k).2, cσ21_7.1, cσ21_7.2, cσ21_9.1, cσ21_9.2, cσ21_13.1, cσ21_13.2]) <;> (first | omega | with_reducible assumption | (unfold rng; omega) | (unfold rng; (repeat' split) <;> omega) | grind)
        · rename_i hc77
          skip
          unfold w_X16_signed_80
          try simp only [forall_eq, rII, rIJ, rIP, rJJ, rJI, rJP, rPP, rPI, rPJ, g1, g2, g3, g4, g5, g6, g7, g8, Nat.reduceEqDiff, Nat.reduceAdd, false_and, and_false, true_and, and_true, reduceIte, nZ0, nZ1, sσ18_6.1, sσ18_6.2, fun a k => (jσ18 a k).1, fun a k => (jσ18 a k).2]
          split
          · rename_i hc84
            skip
            unfold w_X16_signed_94
            try simp only [forall_eq, rII, rIJ, rIP, rJJ, rJI, rJP, rPP, rPI, rPJ, g1, g2, g3, g4, g5, g6, g7, g8, Nat.reduceEqDiff, Nat.reduceAdd, false_and, and_false, true_and, and_true, reduceIte, nZ0, nZ1, sσ18_6.1, sσ18_6.2, fun a k => (jσ18 a k).1, fun a k => (jσ18 a k).2]
            refine s_X16_take g rσ18 (fun σ22 _ rσ22 fc p7 => ?_)
            have fσ22 : Fr ra jx rm [] [4, 5, 7, 8, 9, 10, 11, 12, 13] σ σ22 := Fr.tr fσ18 (Fr.mor (fc) (by decide) (by decide))
            have cσ22_7 := fc.2.1 7 (by decide)
            have cσ22_9 := fc.2.1 9 (by decide)
            have cσ22_13 := fc.2.1 13 (by decide)
            have sσ22_6 := fσ22.2.1 6 (by decide)
            have jσ22 := fσ22.2.2.1
            try simp only [rII, rIJ, rIP, rJJ, rJI, rJP, rPP, rPI, rPJ, g1, g2, g3, g4, g5, g6, g7, g8, Nat.reduceEqDiff, Nat.reduceAdd, false_and, and_false, true_and, and_true, reduceIte, nZ0, nZ1, sσ22_6.1, sσ22_6.2, fun a k => (jσ22 a k).1, fun a k => (jσ22 a k).2, cσ22_7.1, cσ22_7.2, cσ22_9.1, cσ22_9.2, cσ22_13.1, cσ22_13.2] at p7
            try simp only [forall_eq, rII, rIJ, rIP, rJJ, rJI, rJP, rPP, rPI, rPJ, g1, g2, g3, g4, g5, g6, g7, g8, Nat.reduceEqDiff, Nat.reduceAdd, false_and, and_false, true_and, and_true, reduceIte, nZ0, nZ1, sσ22_6.1, sσ22_6.2, fun a k => (jσ22 a k).1, fun a k => (jσ22 a k).2, cσ22_7.1, cσ22_7.2, cσ22_9.1, cσ22_9.2, cσ22_13.1, cσ22_13.2]
            refine hQ _ _ ?_ ?_ ?_
            · exact rσ22
            · exact fσ22
            · (try simp only [rII, rIJ, rIP, rJJ, rJI, rJP, rPP, rPI, rPJ, g1, g2, g3, g4, g5, g6, g7, g8, Nat.reduceEqDiff, Nat.reduceAdd, false_and, and_false, true_and, and_true, reduceIte, nZ0, nZ1, sσ22_6.1, sσ22_6.2, fun a k => (jσ22 a k).1, fun a k => (jσ22 a k).2, cσ22_7.1, cσ22_7.2, cσ22_9.1, cσ22_9.2, cσ22_13.1, cσ22_13.2]) <;> (first | omega | with_reducible assumption | (unfold rng; omega) | (unfold rng; (repeat' split) <;> omega) | grind)
          · rename_i hc84
            skip
            unfold w_X16_signed_87
            try simp only [forall_eq, rII, rIJ, rIP, rJJ, rJI, rJP, rPP, rPI, rPJ, g1, g2, g3, g4, g5, g6, g7, g8, Nat.reduceEqDiff, Nat.reduceAdd, false_and, and_false, true_and, and_true, reduceIte, nZ0, nZ1, sσ18_6.1, sσ18_6.2, fun a k => (jσ18 a k).1, fun a k => (jσ18 a k).2]
            refine s_X16_fail g rσ18 (by (try simp only [rII, rIJ, rIP, rJJ, rJI, rJP, rPP, rPI, rPJ, g1, g2, g3, g4, g5, g6, g7, g8, Nat.reduceEqDiff, Nat.reduceAdd, false_and, and_false, true_and, and_true, reduceIte, nZ0, nZ1, sσ18_6.1, sσ18_6.2, fun a k => (jσ18 a k).1, fun a k => (jσ18 a k).2]) <;> (first | omega | with_reducible assumption | (unfold rng; omega) | (unfold rng; (repeat' split) <;> omega) | grind)) (fun σ23 r24 rσ23 fc p8 => ?_)
            have fσ23 : Fr ra jx rm [] [4, 5, 7, 8, 9, 10, 11, 12, 13] σ σ23 := Fr.tr fσ18 (Fr.mor (fc) (by decide) (by decide))
            have cσ23_7 := fc.2.1 7 (by decide)
            have cσ23_9 := fc.2.1 9 (by decide)
            have cσ23_13 := fc.2.1 13 (by decide)
            have sσ23_6 := fσ23.2.1 6 (by decide)
            have jσ23 := fσ23.2.2.1
            try simp only [rII, rIJ, rIP, rJJ, rJI, rJP, rPP, rPI, rPJ, g1, g2, g3, g4, g5, g6, g7, g8, Nat.reduceEqDiff, Nat.reduceAdd, false_and, and_false, true_and, and_true, reduceIte, nZ0, nZ1, sσ23_6.1, sσ23_6.2, fun a k => (jσ23 a k).1, fun a k => (jσ23 a k).2, cσ23_7.1, cσ23_7.2, cσ23_9.1, cσ23_9.2, cσ23_13.1, cσ23_13.2] at p8
            try simp only [forall_eq, rII, rIJ, rIP, rJJ, rJI, rJP, rPP, rPI, rPJ, g1, g2, g3, g4, g5, g6, g7, g8, Nat.reduceEqDiff, Nat.reduceAdd, false_and, and_false, true_and, and_true, reduceIte, nZ0, nZ1, sσ23_6.1, sσ23_6.2, fun a k => (jσ23 a k).1, fun a k => (jσ23 a k).2, cσ23_7.1, cσ23_7.2, cσ23_9.1, cσ23_9.2, cσ23_13.1, cσ23_13.2]
            refine ⟨by first | assumption | simp, ?_⟩
            refine hX _ _ ?_ ?_ ?_
            · exact rσ23
            · exact fσ23
            · exact rfl
    · rename_i hc38
      skip
      unfold w_X16_signed_41
      try simp only [forall_eq, rII, rIJ, rIP, rJJ, rJI, rJP, rPP, rPI, rPJ, g1, g2, g3, g4, g5, g6, g7, g8, Nat.reduceEqDiff, Nat.reduceAdd, false_and, and_false, true_and, and_true, reduceIte, nZ0, nZ1, sσ18_6.1, sσ18_6.2, fun a k => (jσ18 a k).1, fun a k => (jσ18 a k).2]
      refine s_X16_misplaced g rσ18 (fun σ25 r26 rσ25 fc p9 => ?_)
      have fσ25 : Fr ra jx rm [] [4, 5, 7, 8, 9, 10, 11, 12, 13] σ σ25 := Fr.tr fσ18 (Fr.mor (fc) (by decide) (by decide))
      have cσ25_7 := fc.2.1 7 (by decide)
      have cσ25_9 := fc.2.1 9 (by decide)
      have cσ25_13 := fc.2.1 13 (by decide)
      have sσ25_6 := fσ25.2.1 6 (by decide)
      have jσ25 := fσ25.2.2.1
      try simp only [rII, rIJ, rIP, rJJ, rJI, rJP, rPP, rPI, rPJ, g1, g2, g3, g4, g5, g6, g7, g8, Nat.reduceEqDiff, Nat.reduceAdd, false_and, and_false, true_and, and_true, reduceIte, nZ0, nZ1, sσ25_6.1, sσ25_6.2, fun a k => (jσ25 a k).1, fun a k => (jσ25 a k).2, cσ25_7.1, cσ25_7.2, cσ25_9.1, cσ25_9.2, cσ25_13.1, cσ25_13.2] at p9
      try simp only [forall_eq, rII, rIJ, rIP, rJJ, rJI, rJP, rPP, rPI, rPJ, g1, g2, g3, g4, g5, g6, g7, g8, Nat.reduceEqDiff, Nat.reduceAdd, false_and, and_false, true_and, and_true, reduceIte, nZ0, nZ1, sσ25_6.1, sσ25_6.2, fun a k => (jσ25 a k).1, fun a k => (jσ25 a k).2, cσ25_7.1, cσ25_7.2, cσ25_9.1, cσ25_9.2, cσ25_13.1, cσ25_13.2]
      refine ⟨by first | assumption | simp, ?_⟩
      refine hX _ _ ?_ ?_ ?_
      · exact rσ25
      · exact fσ25
      · exact rfl
  · rename_i hc10
    skip
    unfold w_X16_signed_13
    try simp only [forall_eq, rII, rIJ, rIP, rJJ, rJI, rJP, rPP, rPI, rPJ, g1, g2, g3, g4, g5, g6, g7, g8, Nat.reduceEqDiff, Nat.reduceAdd, false_and, and_false, true_and, and_true, reduceIte, nZ0, nZ1, sσ17_6.1, sσ17_6.2, fun a k => (jσ17 a k).1, fun a k => (jσ17 a k).2]
    unfold w_X16_signed_18
    try simp only [forall_eq, rII, rIJ, rIP, rJJ, rJI, rJP, rPP, rPI, rPJ, g1, g2, g3, g4, g5, g6, g7, g8, Nat.reduceEqDiff, Nat.reduceAdd, false_and, and_false, true_and, and_true, reduceIte, nZ0, nZ1, sσ17_6.1, sσ17_6.2, fun a k => (jσ17 a k).1, fun a k => (jσ17 a k).2]
    try rw [if_neg (by decide)]
    unfold w_X16_signed_25
    try simp only [forall_eq, rII, rIJ, rIP, rJJ, rJI, rJP, rPP, rPI, rPJ, g1, g2, g3, g4, g5, g6, g7, g8, Nat.reduceEqDiff, Nat.reduceAdd, false_and, and_false, true_and, and_true, reduceIte, nZ0, nZ1, sσ17_6.1, sσ17_6.2, fun a k => (jσ17 a k).1, fun a k => (jσ17 a k).2]
    refine s_X16_take g rσ17 (fun σ27 _ rσ27 fc p10 => ?_)
    have fσ27 : Fr ra jx rm [] [4, 5, 7, 8, 9, 10, 11, 12, 13] σ σ27 := Fr.tr fσ17 (Fr.mor (fc) (by decide) (by decide))
    have cσ27_7 := fc.2.1 7 (by decide)
    have cσ27_9 := fc.2.1 9 (by decide)
    have cσ27_13 := fc.2.1 13 (by decide)
    have sσ27_6 := fσ27.2.1 6 (by decide)
    have jσ27 := fσ27.2.2.1
    try simp only [rII, rIJ, rIP, rJJ, rJI, rJP, rPP, rPI, rPJ, g1, g2, g3, g4, g5, g6, g7, g8, Nat.reduceEqDiff, Nat.reduceAdd, false_and, and_false, true_and, and_true, reduceIte, nZ0, nZ1, sσ27_6.1, sσ27_6.2, fun a k => (jσ27 a k).1, fun a k => (jσ27 a k).2, cσ27_7.1, cσ27_7.2, cσ27_9.1, cσ27_9.2, cσ27_13.1, cσ27_13.2] at p10
    try simp only [forall_eq, rII, rIJ, rIP, rJJ, rJI, rJP, rPP, rPI, rPJ, g1, g2, g3, g4, g5, g6, g7, g8, Nat.reduceEqDiff, Nat.reduceAdd, false_and, and_false, true_and, and_true, reduceIte, nZ0, nZ1, sσ27_6.1, sσ27_6.2, fun a k => (jσ27 a k).1, fun a k => (jσ27 a k).2, cσ27_7.1, cσ27_7.2, cσ27_9.1, cσ27_9.2, cσ27_13.1, cσ27_13.2]
    unfold w_X16_signed_29
    try simp only [forall_eq, rII, rIJ, rIP, rJJ, rJI, rJP, rPP, rPI, rPJ, g1, g2, g3, g4, g5, g6, g7, g8, Nat.reduceEqDiff, Nat.reduceAdd, false_and, and_false, true_and, and_true, reduceIte, nZ0, nZ1, sσ27_6.1, sσ27_6.2, fun a k => (jσ27 a k).1, fun a k => (jσ27 a k).2, cσ27_7.1, cσ27_7.2, cσ27_9.1, cσ27_9.2, cσ27_13.1, cσ27_13.2]
    refine s_X16_see g rσ27 (by (try simp only [rII, rIJ, rIP, rJJ, rJI, rJP, rPP, rPI, rPJ, g1, g2, g3, g4, g5, g6, g7, g8, Nat.reduceEqDiff, Nat.reduceAdd, false_and, and_false, true_and, and_true, reduceIte, nZ0, nZ1, sσ27_6.1, sσ27_6.2, fun a k => (jσ27 a k).1, fun a k => (jσ27 a k).2, cσ27_7.1, cσ27_7.2, cσ27_9.1, cσ27_9.2, cσ27_13.1, cσ27_13.2]) <;> (first | omega | with_reducible assumption | (unfold rng; omega) | (unfold rng; (repeat' split) <;> omega) | grind)) (fun σ28 _ rσ28 fc p11 => ?_) (fun σx E rx fx px => hX _ _ rx (Fr.tr fσ27 (Fr.mor (fx) (by decide) (by decide))) px)
    have fσ28 : Fr ra jx rm [] [4, 5, 7, 8, 9, 10, 11, 12, 13] σ σ28 := Fr.tr fσ27 (Fr.mor (fc) (by decide) (by decide))
    have sσ28_6 := fσ28.2.1 6 (by decide)
    have jσ28 := fσ28.2.2.1
    try simp only [rII, rIJ, rIP, rJJ, rJI, rJP, rPP, rPI, rPJ, g1, g2, g3, g4, g5, g6, g7, g8, Nat.reduceEqDiff, Nat.reduceAdd, false_and, and_false, true_and, and_true, reduceIte, nZ0, nZ1, sσ28_6.1, sσ28_6.2, fun a k => (jσ28 a k).1, fun a k => (jσ28 a k).2, cσ27_7.1, cσ27_7.2, cσ27_9.1, cσ27_9.2, cσ27_13.1, cσ27_13.2] at p11
    try simp only [forall_eq, rII, rIJ, rIP, rJJ, rJI, rJP, rPP, rPI, rPJ, g1, g2, g3, g4, g5, g6, g7, g8, Nat.reduceEqDiff, Nat.reduceAdd, false_and, and_false, true_and, and_true, reduceIte, nZ0, nZ1, sσ28_6.1, sσ28_6.2, fun a k => (jσ28 a k).1, fun a k => (jσ28 a k).2, cσ27_7.1, cσ27_7.2, cσ27_9.1, cσ27_9.2, cσ27_13.1, cσ27_13.2]
    have q12 := rσ28.2.1 9; simp only [rgS] at q12
    split
    · rename_i hc38
      skip
      unfold w_X16_signed_46
      try simp only [forall_eq, rII, rIJ, rIP, rJJ, rJI, rJP, rPP, rPI, rPJ, g1, g2, g3, g4, g5, g6, g7, g8, Nat.reduceEqDiff, Nat.reduceAdd, false_and, and_false, true_and, and_true, reduceIte, nZ0, nZ1, sσ28_6.1, sσ28_6.2, fun a k => (jσ28 a k).1, fun a k => (jσ28 a k).2, cσ27_7.1, cσ27_7.2, cσ27_9.1, cσ27_9.2, cσ27_13.1, cσ27_13.2]
      try rw [if_neg (by decide)]
      unfold w_X16_signed_51
      try simp only [forall_eq, rII, rIJ, rIP, rJJ, rJI, rJP, rPP, rPI, rPJ, g1, g2, g3, g4, g5, g6, g7, g8, Nat.reduceEqDiff, Nat.reduceAdd, false_and, and_false, true_and, and_true, reduceIte, nZ0, nZ1, sσ28_6.1, sσ28_6.2, fun a k => (jσ28 a k).1, fun a k => (jσ28 a k).2, cσ27_7.1, cσ27_7.2, cσ27_9.1, cσ27_9.2, cσ27_13.1, cσ27_13.2]
      unfold w_X16_signed_63
      try simp only [forall_eq, rII, rIJ, rIP, rJJ, rJI, rJP, rPP, rPI, rPJ, g1, g2, g3, g4, g5, g6, g7, g8, Nat.reduceEqDiff, Nat.reduceAdd, false_and, and_false, true_and, and_true, reduceIte, nZ0, nZ1, sσ28_6.1, sσ28_6.2, fun a k => (jσ28 a k).1, fun a k => (jσ28 a k).2, cσ27_7.1, cσ27_7.2, cσ27_9.1, cσ27_9.2, cσ27_13.1, cσ27_13.2]
      split
      · rename_i hc73
        skip
        unfold w_X16_signed_87
        try simp only [forall_eq, rII, rIJ, rIP, rJJ, rJI, rJP, rPP, rPI, rPJ, g1, g2, g3, g4, g5, g6, g7, g8, Nat.reduceEqDiff, Nat.reduceAdd, false_and, and_false, true_and, and_true, reduceIte, nZ0, nZ1, sσ28_6.1, sσ28_6.2, fun a k => (jσ28 a k).1, fun a k => (jσ28 a k).2, cσ27_7.1, cσ27_7.2, cσ27_9.1, cσ27_9.2, cσ27_13.1, cσ27_13.2]
        refine s_X16_fail g rσ28 (by (try simp only [rII, rIJ, rIP, rJJ, rJI, rJP, rPP, rPI, rPJ, g1, g2, g3, g4, g5, g6, g7, g8, Nat.reduceEqDiff, Nat.reduceAdd, false_and, and_false, true_and, and_true, reduceIte, nZ0, nZ1, sσ28_6.1, sσ28_6.2, fun a k => (jσ28 a k).1, fun a k => (jσ28 a k).2, cσ27_7.1, cσ27_7.2, cσ27_9.1, cσ27_9.2, cσ27_13.1, cσ27_13.2]) <;> (first | omega | with_reducible assumption | (unfold rng; omega) | (unfold rng; (repeat' split) <;> omega) | grind)) (fun σ29 r30 rσ29 fc p13 => ?_)
        have fσ29 : Fr ra jx rm [] [4, 5, 7, 8, 9, 10, 11, 12, 13] σ σ29 := Fr.tr fσ28 (Fr.mor (fc) (by decide) (by decide))
        have cσ29_7 := fc.2.1 7 (by decide)
        have cσ29_9 := fc.2.1 9 (by decide)
        have cσ29_13 := fc.2.1 13 (by decide)
        have sσ29_6 := fσ29.2.1 6 (by decide)
        have jσ29 := fσ29.2.2.1
        try simp only [rII, rIJ, rIP, rJJ, rJI, rJP, rPP, rPI, rPJ, g1, g2, g3, g4, g5, g6, g7, g8, Nat.reduceEqDiff, Nat.reduceAdd, false_and, and_false, true_and, and_true, reduceIte, nZ0, nZ1, sσ29_6.1, sσ29_6.2, fun a k => (jσ29 a k).1, fun a k => (jσ29 a k).2, cσ27_7.1, cσ27_7.2, cσ27_9.1, cσ27_9.2, cσ27_13.1, cσ27_13.2, cσ29_7.1, cσ29_7.2, cσ29_9.1, cσ29_9.2, cσ29_13.1, cσ29_13.2] at p13
        try simp only [forall_eq, rII, rIJ, rIP, rJJ, rJI, rJP, rPP, rPI, rPJ, g1, g2, g3, g4, g5, g6, g7, g8, Nat.reduceEqDiff, Nat.reduceAdd, false_and, and_false, true_and, and_true, reduceIte, nZ0, nZ1, sσ29_6.1, sσ29_6.2, fun a k => (jσ29 a k).1, fun a k => (jσ29 a k).2, cσ27_7.1, cσ27_7.2, cσ27_9.1, cσ27_9.2, cσ27_13.1, cσ27_13.2, cσ29_7.1, cσ29_7.2, cσ29_9.1, cσ29_9.2, cσ29_13.1, cσ29_13.2]
        refine ⟨by first | assumption | simp, ?_⟩
        refine hX _ _ ?_ ?_ ?_
        · exact rσ29
        · exact fσ29
        · exact rfl
      · rename_i hc73
        skip
        unfold w_X16_signed_76
        try simp only [forall_eq, rII, rIJ, rIP, rJJ, rJI, rJP, rPP, rPI, rPJ, g1, g2, g3, g4, g5, g6, g7, g8, Nat.reduceEqDiff, Nat.reduceAdd, false_and, and_false, true_and, and_true, reduceIte, nZ0, nZ1, sσ28_6.1, sσ28_6.2, fun a k => (jσ28 a k).1, fun a k => (jσ28 a k).2, cσ27_7.1, cσ27_7.2, cσ27_9.1, cσ27_9.2, cσ27_13.1, cσ27_13.2]
        split
        · rename_i hc77
          skip
          unfold w_X16_signed_94
          try simp only [forall_eq, rII, rIJ, rIP, rJJ, rJI, rJP, rPP, rPI, rPJ, g1, g2, g3, g4, g5, g6, g7, g8, Nat.reduceEqDiff, Nat.reduceAdd, false_and, and_false, true_and, and_true, reduceIte, nZ0, nZ1, sσ28_6.1, sσ28_6.2, fun a k => (jσ28 a k).1, fun a k => (jσ28 a k).2, cσ27_7.1, cσ27_7.2, cσ27_9.1, cσ27_9.2, cσ27_13.1, cσ27_13.2]
          refine s_X16_take g rσ28 (fun σ31 _ rσ31 fc p14 => ?_)
          have fσ31 : Fr ra jx rm [] [4, 5, 7, 8, 9, 10, 11, 12, 13] σ σ31 := Fr.tr fσ28 (Fr.mor (fc) (by decide) (by decide))
          have cσ31_7 := fc.2.1 7 (by decide)
          have cσ31_9 := fc.2.1 9 (by decide)
          have cσ31_13 := fc.2.1 13 (by decide)
          have sσ31_6 := fσ31.2.1 6 (by decide)
          have jσ31 := fσ31.2.2.1
          try simp only [rII, rIJ, rIP, rJJ, rJI, rJP, rPP, rPI, rPJ, g1, g2, g3, g4, g5, g6, g7, g8, Nat.reduceEqDiff, Nat.reduceAdd, false_and, and_false, true_and, and_true, reduceIte, nZ0, nZ1, sσ31_6.1, sσ31_6.2, fun a k => (jσ31 a k).1, fun a k => (jσ31 a k).2, cσ27_7.1, cσ27_7.2, cσ27_9.1, cσ27_9.2, cσ27_13.1, cσ27_13.2, cσ31_7.1, cσ31_7.2, cσ31_9.1, cσ31_9.2, cσ31_13.1, cσ31_13.2] at p14
          try simp only [forall_eq, rII, rIJ, rIP, rJJ, rJI, rJP, rPP, rPI, rPJ, g1, g2, g3, g4, g5, g6, g7, g8, Nat.reduceEqDiff, Nat.reduceAdd, false_and, and_false, true_and, and_true, reduceIte, nZ0, nZ1, sσ31_6.1, sσ31_6.2, fun a k => (jσ31 a k).1, fun a k => (jσ31 a k).2, cσ27_7.1, cσ27_7.2, cσ27_9.1, cσ27_9.2, cσ27_13.1, cσ27_13.2, cσ31_7.1, cσ31_7.2, cσ31_9.1, cσ31_9.2, cσ31_13.1, cσ31_13.2]
          refine hQ _ _ ?_ ?_ ?_
          · exact rσ31
          · exact fσ31
          · (try simp only [rII, rIJ, rIP, rJJ, rJI, rJP, rPP, rPI, rPJ, g1, g2, g3, g4, g5, g6, g7, g8, Nat.reduceEqDiff, Nat.reduceAdd, false_and, and_false, true_and, and_true, reduceIte, nZ0, nZ1, sσ31_6.1, sσ31_6.2, fun a k => (jσ31 a k).1, fun a k => (jσ31 a k).2, cσ27_7.1, cσ27_7.2, cσ27_9.1, cσ27_9.2, cσ27_13.1, cσ27_13.2, cσ31_7.1, cσ31_7.2, cσ31_9.1, cσ31_9.2, cσ31_13.1, cσ31_13.2]) <;> (first | omega | with_reducible assumption | (unfold rng; omega) | (unfold rng; (repeat' split) <;> omega) | grind)
        · rename_i hc77
          skip
          unfold w_X16_signed_80
          try simp only [forall_eq, rII, rIJ, rIP, rJJ, rJI, rJP, rPP, rPI, rPJ, g1, g2, g3, g4, g5, g6, g7, g8, Nat.reduceEqDiff, Nat.reduceAdd, false_and, and_false, true_and, and_true, reduceIte, nZ0, nZ1, sσ28_6.1, sσ28_6.2, fun a k => (jσ28 a k).1, fun a k => (jσ28 a k).2, cσ27_7.1, cσ27_7.2, cσ27_9.1, cσ27_9.2, cσ27_13.1, cσ27_13.2]
          split
          · rename_i hc84
            skip
            unfold w_X16_signed_94
            try simp only [forall_eq, rII, rIJ, rIP, rJJ, rJI, rJP, rPP, rPI, rPJ, g1, g2, g3, g4, g5, g6, g7, g8, Nat.reduceEqDiff, Nat.reduceAdd, false_and, and_false, true_and, and_true, reduceIte, nZ0, nZ1, sσ28_6.1, sσ28_6.2, fun a k => (jσ28 a k).1, fun a k => (jσ28 a k).2, cσ27_7.1, cσ27_7.2, cσ27_9.1, cσ27_9.2, cσ27_13.1, cσ27_13.2]
            refine s_X16_take g rσ28 (fun σ32 _ rσ32 fc p15 => ?_)
            have fσ32 : Fr ra jx rm [] [4, 5, 7, 8, 9, 10, 11, 12, 13] σ σ32 := Fr.tr fσ28 (Fr.mor (fc) (by decide) (by decide))
            have cσ32_7 := fc.2.1 7 (by decide)
            have cσ32_9 := fc.2.1 9 (by decide)
            have cσ32_13 := fc.2.1 13 (by decide)
            have sσ32_6 := fσ32.2.1 6 (by decide)
            have jσ32 := fσ32.2.2.1
            try simp only [rII, rIJ, rIP, rJJ, rJI, rJP, rPP, rPI, rPJ, g1, g2, g3, g4, g5, g6, g7, g8, Nat.reduceEqDiff, Nat.reduceAdd, false_and, and_false, true_and, and_true, reduceIte, nZ0, nZ1, sσ32_6.1, sσ32_6.2, fun a k => (jσ32 a k).1, fun a k => (jσ32 a k).2, cσ27_7.1, cσ27_7.2, cσ27_9.1, cσ27_9.2, cσ27_13.1, cσ27_13.2, cσ32_7.1, cσ32_7.2, cσ32_9.1, cσ32_9.2, cσ32_13.1, cσ32_13.2] at p15
            try simp only [forall_eq, rII, rIJ, rIP, rJJ, rJI, rJP, rPP, rPI, rPJ, g1, g2, g3, g4, g5, g6, g7, g8, Nat.reduceEqDiff, Nat.reduceAdd, false_and, and_false, true_and, and_true, reduceIte, nZ0, nZ1, sσ32_6.1, sσ32_6.2, fun a k => (jσ32 a k).1, fun a k => (jσ32 a k).2, cσ27_7.1, cσ27_7.2, cσ27_9.1, cσ27_9.2, cσ27_13.1, cσ27_13.2, cσ32_7.1, cσ32_7.2, cσ32_9.1, cσ32_9.2, cσ32_13.1, cσ32_13.2]
            refine hQ _ _ ?_ ?_ ?_
            · exact rσ32
            · exact fσ32
            · (try simp only [rII, rIJ, rIP, rJJ, rJI, rJP, rPP, rPI, rPJ, g1, g2, g3, g4, g5, g6, g7, g8, Nat.reduceEqDiff, Nat.reduceAdd, false_and, and_false, true_and, and_true, reduceIte, nZ0, nZ1, sσ32_6.1, sσ32_6.2, fun a k => (jσ32 a k).1, fun a k => (jσ32 a k).2, cσ27_7.1, cσ27_7.2, cσ27_9.1, cσ27_9.2, cσ27_13.1, cσ27_13.2, cσ32_7.1, cσ32_7.2, cσ32_9.1, cσ32_9.2, cσ32_13.1, cσ32_13.2]) <;> (first | omega | with_reducible assumption | (unfold rng; omega) | (unfold rng; (repeat' split) <;> omega) | grind)
          · rename_i hc84
            skip
            unfold w_X16_signed_87
            try simp only [forall_eq, rII, rIJ, rIP, rJJ, rJI, rJP, rPP, rPI, rPJ, g1, g2, g3, g4, g5, g6, g7, g8, Nat.reduceEqDiff, Nat.reduceAdd, false_and, and_false, true_and, and_true, reduceIte, nZ0, nZ1, sσ28_6.1, sσ28_6.2, fun a k => (jσ28 a k).1, fun a k => (jσ28 a k).2, cσ27_7.1, cσ27_7.2, cσ27_9.1, cσ27_9.2, cσ27_13.1, cσ27_13.2]
            refine s_X16_fail g rσ28 (by (try simp only [rII, rIJ, rIP, rJJ, rJI, rJP, rPP, rPI, rPJ, g1, g2, g3, g4, g5, g6, g7, g8, Nat.reduceEqDiff, Nat.reduceAdd, false_and, and_false, true_and, and_true, reduceIte, nZ0, nZ1, sσ28_6.1, sσ28_6.2, fun a k => (jσ28 a k).1, fun a k => (jσ28 a k).2, cσ27_7.1, cσ27_7.2, cσ27_9.1, cσ27_9.2, cσ27_13.1, cσ27_13.2]) <;> (first | omega | with_reducible assumption | (unfold rng; omega) | (unfold rng; (repeat' split) <;> omega) | grind)) (fun σ33 r34 rσ33 fc p16 => ?_)
            have fσ33 : Fr ra jx rm [] [4, 5, 7, 8, 9, 10, 11, 12, 13] σ σ33 := Fr.tr fσ28 (Fr.mor (fc) (by decide) (by decide))
            have cσ33_7 := fc.2.1 7 (by decide)
            have cσ33_9 := fc.2.1 9 (by decide)
            have cσ33_13 := fc.2.1 13 (by decide)
            have sσ33_6 := fσ33.2.1 6 (by decide)
            have jσ33 := fσ33.2.2.1
            try simp only [rII, rIJ, rIP, rJJ, rJI, rJP, rPP, rPI, rPJ, g1, g2, g3, g4, g5, g6, g7, g8, Nat.reduceEqDiff, Nat.reduceAdd, false_and, and_false, true_and, and_true, reduceIte, nZ0, nZ1, sσ33_6.1, sσ33_6.2, fun a k => (jσ33 a k).1, fun a k => (jσ33 a k).2, cσ27_7.1, cσ27_7.2, cσ27_9.1, cσ27_9.2, cσ27_13.1, cσ27_13.2, cσ33_7.1, cσ33_7.2, cσ33_9.1, cσ33_9.2, cσ33_13.1, cσ33_13.2] at p16
            try simp only [forall_eq, rII, rIJ, rIP, rJJ, rJI, rJP, rPP, rPI, rPJ, g1, g2, g3, g4, g5, g6, g7, g8, Nat.reduceEqDiff, Nat.reduceAdd, false_and, and_false, true_and, and_true, reduceIte, nZ0, nZ1, sσ33_6.1, sσ33_6.2, fun a k => (jσ33 a k).1, fun a k => (jσ33 a k).2, cσ27_7.1, cσ27_7.2, cσ27_9.1, cσ27_9.2, cσ27_13.1, cσ27_13.2, cσ33_7.1, cσ33_7.2, cσ33_9.1, cσ33_9.2, cσ33_13.1, cσ33_13.2]
            refine ⟨by first | assumption | simp, ?_⟩
            refine hX _ _ ?_ ?_ ?_
            · exact rσ33
            · exact fσ33
            · exact rfl
    · rename_i hc38
      skip
      unfold w_X16_signed_41
      try simp only [forall_eq, rII, rIJ, rIP, rJJ, rJI, rJP, rPP, rPI, rPJ, g1, g2, g3, g4, g5, g6, g7, g8, Nat.reduceEqDiff, Nat.reduceAdd, false_and, and_false, true_and, and_true, reduceIte, nZ0, nZ1, sσ28_6.1, sσ28_6.2, fun a k => (jσ28 a k).1, fun a k => (jσ28 a k).2, cσ27_7.1, cσ27_7.2, cσ27_9.1, cσ27_9.2, cσ27_13.1, cσ27_13.2]
      refine s_X16_misplaced g rσ28 (fun σ35 r36 rσ35 fc p17 => ?_)
      have fσ35 : Fr ra jx rm [] [4, 5, 7, 8, 9, 10, 11, 12, 13] σ σ35 := Fr.tr fσ28 (Fr.mor (fc) (by decide) (by decide))
      have cσ35_7 := fc.2.1 7 (by decide)
      have cσ35_9 := fc.2.1 9 (by decide)
      have cσ35_13 := fc.2.1 13 (by decide)
      have sσ35_6 := fσ35.2.1 6 (by decide)
      have jσ35 := fσ35.2.2.1
      try simp only [rII, rIJ, rIP, rJJ, rJI, rJP, rPP, rPI, rPJ, g1, g2, g3, g4, g5, g6, g7, g8, Nat.reduceEqDiff, Nat.reduceAdd, false_and, and_false, true_and, and_true, reduceIte, nZ0, nZ1, sσ35_6.1, sσ35_6.2, fun a k => (jσ35 a k).1, fun a k => (jσ35 a k).2, cσ27_7.1, cσ27_7.2, cσ27_9.1, cσ27_9.2, cσ27_13.1, cσ27_13.2, cσ35_7.1, cσ35_7.2, cσ35_9.1, cσ35_9.2, cσ35_13.1, cσ35_13.2] at p17
      try simp only [forall_eq, rII, rIJ, rIP, rJJ, rJI, rJP, rPP, rPI, rPJ, g1, g2, g3, g4, g5, g6, g7, g8, Nat.reduceEqDiff, Nat.reduceAdd, false_and, and_false, true_and, and_true, reduceIte, nZ0, nZ1, sσ35_6.1, sσ35_6.2, fun a k => (jσ35 a k).1, fun a k => (jσ35 a k).2, cσ27_7.1, cσ27_7.2, cσ27_9.1, cσ27_9.2, cσ27_13.1, cσ27_13.2, cσ35_7.1, cσ35_7.2, cσ35_9.1, cσ35_9.2, cσ35_13.1, cσ35_13.2]
      refine ⟨by first | assumption | simp, ?_⟩
      refine hX _ _ ?_ ?_ ?_
      · exact rσ35
      · exact fσ35
      · exact rfl


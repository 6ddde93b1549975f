set_option maxHeartbeats 8000000 in
theorem s2_X16_empty {ra : Nat → Nat} {jx : Nat → Nat → Nat} {rm : Nat} (g : Geo ra jx rm) {σ : Sg} (rσ : Rg ra jx rm σ) {Q : Sg → Unit → Prop} {X : Sg → String → Prop} (hQ : ∀ (σ' : Sg) (r : Unit), Rg ra jx rm σ' → Fr ra jx rm [40, 41, 42, 43, 44, 45, 46, 47, 48, 49, 54, 55, 56, 57, 58, 65] [66, 67] σ σ' → (ThE ra rm σ' ∧ (∀ i : Nat, (i : Int) < 1100 → gI σ' (ra 54) i = 0) ∧ (∀ i : Nat, (i : Int) < 64 → gI σ' (ra 45) i = -1) ∧ gI σ' rm 67 = 0) → Q σ' r) : wp_X16_empty ra jx rm σ Q X := by
  obtain ⟨g1, g2, g3, g4, g5, g6, g7, g8⟩ := id g
  have fσ : Fr ra jx rm [40, 41, 42, 43, 44, 45, 46, 47, 48, 49, 54, 55, 56, 57, 58, 65] [66, 67] σ σ := Fr.rf
  unfold wp_X16_empty
  unfold w_X16_empty_0
  try simp only [forall_eq, rII, rIJ, rIP, rJJ, rJI, rJP, rPP, rPI, rPJ, g1, g2, g3, g4, g5, g6, g7, g8, Nat.reduceEqDiff, Nat.reduceAdd, false_and, and_false, true_and, and_true, reduceIte, nZ0, nZ1]
  have L2 : ∀ (fu2 : Nat) (τ2 : Sg) (v1 : Int), Rg ra jx rm τ2 → Fr ra jx rm [40, 41, 42, 43, 44, 45, 46, 47, 48, 49, 54, 55, 56, 57, 58, 65] [66, 67] σ τ2 → (0 ≤ v1 ∧ v1 ≤ 12802 ∧ (∀ i : Nat, (i : Int) < v1 → gI τ2 (ra 65) i = if (i : Int) + 1 < 12802 then (i : Int) + 1 else -1)) → ((12802 - v1).toNat) < fu2 → wl_X16_empty_2 ra jx rm Q X fu2 τ2 v1 := by
    intro fu2
    induction fu2 with
    | zero => intro τ2 _ _ _ _ h9; omega
    | succ fu2 ih2 =>
      intro τ2 v1 rτ2 fτ2 hi2 hm2
      unfold wl_X16_empty_2
      have jτ2 := fτ2.2.2.1
      unfold w_X16_empty_2
      try simp only [forall_eq, rII, rIJ, rIP, rJJ, rJI, rJP, rPP, rPI, rPJ, g1, g2, g3, g4, g5, g6, g7, g8, Nat.reduceEqDiff, Nat.reduceAdd, false_and, and_false, true_and, and_true, reduceIte, nZ0, nZ1, fun a k => (jτ2 a k).1, fun a k => (jτ2 a k).2]
      have hf9 := hi2.2.2
      split
      · rename_i hc6
        skip
        unfold w_X16_empty_37
        try simp only [forall_eq, rII, rIJ, rIP, rJJ, rJI, rJP, rPP, rPI, rPJ, g1, g2, g3, g4, g5, g6, g7, g8, Nat.reduceEqDiff, Nat.reduceAdd, false_and, and_false, true_and, and_true, reduceIte, nZ0, nZ1, fun a k => (jτ2 a k).1, fun a k => (jτ2 a k).2]
        have L49 : ∀ (fu49 : Nat) (τ49 : Sg) (v1 : Int), Rg ra jx rm τ49 → Fr ra jx rm [40, 41, 42, 43, 44, 45, 46, 47, 48, 49, 54, 55, 56, 57, 58, 65] [66, 67] σ τ49 → (0 ≤ v1 ∧ v1 ≤ 64 ∧ gI τ49 rm 66 = 0 ∧ gI τ49 rm 67 = 0 ∧ (∀ i : Nat, (i : Int) < 12802 → gI τ49 (ra 65) i = if (i : Int) + 1 < 12802 then (i : Int) + 1 else -1) ∧ (∀ i : Nat, (i : Int) < v1 → gI τ49 (ra 46) i = -1 ∧ gI τ49 (ra 47) i = -1 ∧ gI τ49 (ra 45) i = -1)) → ((64 - v1).toNat) < fu49 → wl_X16_empty_49 ra jx rm Q X fu49 τ49 v1 := by
          intro fu49
          induction fu49 with
          | zero => intro τ49 _ _ _ _ h9; omega
          | succ fu49 ih49 =>
            intro τ49 v1 rτ49 fτ49 hi49 hm49
            unfold wl_X16_empty_49
            have jτ49 := fτ49.2.2.1
            unfold w_X16_empty_49
            try simp only [forall_eq, rII, rIJ, rIP, rJJ, rJI, rJP, rPP, rPI, rPJ, g1, g2, g3, g4, g5, g6, g7, g8, Nat.reduceEqDiff, Nat.reduceAdd, false_and, and_false, true_and, and_true, reduceIte, nZ0, nZ1, fun a k => (jτ49 a k).1, fun a k => (jτ49 a k).2]
            have k3 := hi49.2.2.1; have k4 := hi49.2.2.2.1; have hf9 := hi49.2.2.2.2.1; have k1 := hi49.1; have k2 := hi49.2.1
            have hg9 := hi49.2.2.2.2.2
            clear hi49
            split
            · rename_i hc52
              skip
              unfold w_X16_empty_126
              try simp only [forall_eq, rII, rIJ, rIP, rJJ, rJI, rJP, rPP, rPI, rPJ, g1, g2, g3, g4, g5, g6, g7, g8, Nat.reduceEqDiff, Nat.reduceAdd, false_and, and_false, true_and, and_true, reduceIte, nZ0, nZ1, fun a k => (jτ49 a k).1, fun a k => (jτ49 a k).2]
              have L128 : ∀ (fu128 : Nat) (τ128 : Sg) (v1 : Int), Rg ra jx rm τ128 → Fr ra jx rm [40, 41, 42, 43, 44, 45, 46, 47, 48, 49, 54, 55, 56, 57, 58, 65] [66, 67] σ τ128 → (0 ≤ v1 ∧ v1 ≤ 32 ∧ gI τ128 rm 66 = 0 ∧ gI τ128 rm 67 = 0 ∧ (∀ i : Nat, (i : Int) < 12802 → gI τ128 (ra 65) i = if (i : Int) + 1 < 12802 then (i : Int) + 1 else -1) ∧ (∀ i : Nat, (i : Int) < 64 → gI τ128 (ra 46) i = -1 ∧ gI τ128 (ra 47) i = -1 ∧ gI τ128 (ra 45) i = -1)) → ((32 - v1).toNat) < fu128 → wl_X16_empty_128 ra jx rm Q X fu128 τ128 v1 := by
                intro fu128
                induction fu128 with
                | zero => intro τ128 _ _ _ _ h9; omega
                | succ fu128 ih128 =>
                  intro τ128 v1 rτ128 fτ128 hi128 hm128
                  unfold wl_X16_empty_128
                  have jτ128 := fτ128.2.2.1
                  unfold w_X16_empty_128
                  try simp only [forall_eq, rII, rIJ, rIP, rJJ, rJI, rJP, rPP, rPI, rPJ, g1, g2, g3, g4, g5, g6, g7, g8, Nat.reduceEqDiff, Nat.reduceAdd, false_and, and_false, true_and, and_true, reduceIte, nZ0, nZ1, fun a k => (jτ128 a k).1, fun a k => (jτ128 a k).2]
                  have k3 := hi128.2.2.1; have k4 := hi128.2.2.2.1; have hf9 := hi128.2.2.2.2.1; have k1 := hi128.1; have k2 := hi128.2.1
                  have hg9 := hi128.2.2.2.2.2
                  clear hi128
                  split
                  · rename_i hc131
                    skip
                    unfold w_X16_empty_147
                    try simp only [forall_eq, rII, rIJ, rIP, rJJ, rJI, rJP, rPP, rPI, rPJ, g1, g2, g3, g4, g5, g6, g7, g8, Nat.reduceEqDiff, Nat.reduceAdd, false_and, and_false, true_and, and_true, reduceIte, nZ0, nZ1, fun a k => (jτ128 a k).1, fun a k => (jτ128 a k).2]
                    have L149 : ∀ (fu149 : Nat) (τ149 : Sg) (v1 : Int), Rg ra jx rm τ149 → Fr ra jx rm [40, 41, 42, 43, 44, 45, 46, 47, 48, 49, 54, 55, 56, 57, 58, 65] [66, 67] σ τ149 → (0 ≤ v1 ∧ v1 ≤ 1100 ∧ gI τ149 rm 66 = 0 ∧ gI τ149 rm 67 = 0 ∧ (∀ i : Nat, (i : Int) < 12802 → gI τ149 (ra 65) i = if (i : Int) + 1 < 12802 then (i : Int) + 1 else -1) ∧ (∀ i : Nat, (i : Int) < 64 → gI τ149 (ra 46) i = -1 ∧ gI τ149 (ra 47) i = -1 ∧ gI τ149 (ra 45) i = -1) ∧ (∀ i : Nat, (i : Int) < v1 → gI τ149 (ra 54) i = 0)) → ((1100 - v1).toNat) < fu149 → wl_X16_empty_149 ra jx rm Q X fu149 τ149 v1 := by
                      intro fu149
                      induction fu149 with
                      | zero => intro τ149 _ _ _ _ h9; omega
                      | succ fu149 ih149 =>
                        intro τ149 v1 rτ149 fτ149 hi149 hm149
                        unfold wl_X16_empty_149
                        have jτ149 := fτ149.2.2.1
                        unfold w_X16_empty_149
                        try simp only [forall_eq, rII, rIJ, rIP, rJJ, rJI, rJP, rPP, rPI, rPJ, g1, g2, g3, g4, g5, g6, g7, g8, Nat.reduceEqDiff, Nat.reduceAdd, false_and, and_false, true_and, and_true, reduceIte, nZ0, nZ1, fun a k => (jτ149 a k).1, fun a k => (jτ149 a k).2]
                        have k3 := hi149.2.2.1; have k4 := hi149.2.2.2.1; have hf9 := hi149.2.2.2.2.1; have k1 := hi149.1; have k2 := hi149.2.1
                        have hg9 := hi149.2.2.2.2.2.1; have hh9 := hi149.2.2.2.2.2.2
                        clear hi149
                        split
                        · rename_i hc153
                          skip
                          unfold w_X16_empty_199
                          try simp only [forall_eq, rII, rIJ, rIP, rJJ, rJI, rJP, rPP, rPI, rPJ, g1, g2, g3, g4, g5, g6, g7, g8, Nat.reduceEqDiff, Nat.reduceAdd, false_and, and_false, true_and, and_true, reduceIte, nZ0, nZ1, fun a k => (jτ149 a k).1, fun a k => (jτ149 a k).2]
                          refine hQ _ _ ?_ ?_ ?_
                          · exact rτ149
                          · exact fτ149
                          · exact ⟨ThE.fresh hf9 (fun i hi => ⟨(hg9 i hi).1, (hg9 i hi).2.1⟩) k3 k4 (fun i hi => hh9 i (by omega)), fun i hi => hh9 i (by omega), fun i hi => (hg9 i hi).2.2, k4⟩
                        · rename_i hc153
                          skip
                          unfold w_X16_empty_156
                          try simp only [forall_eq, rII, rIJ, rIP, rJJ, rJI, rJP, rPP, rPI, rPJ, g1, g2, g3, g4, g5, g6, g7, g8, Nat.reduceEqDiff, Nat.reduceAdd, false_and, and_false, true_and, and_true, reduceIte, nZ0, nZ1, fun a k => (jτ149 a k).1, fun a k => (jτ149 a k).2]
                          refine ⟨by (first | omega | with_reducible assumption | (unfold rng; omega) | (unfold rng; (repeat' split) <;> omega)), ?_⟩
                          refine ⟨by (first | omega | with_reducible assumption | (unfold rng; omega) | (unfold rng; (repeat' split) <;> omega)), ?_⟩
                          refine ⟨by (first | omega | with_reducible assumption | (unfold rng; omega) | (unfold rng; (repeat' split) <;> omega)), ?_⟩
                          refine ⟨by (first | omega | with_reducible assumption | (unfold rng; omega) | (unfold rng; (repeat' split) <;> omega)), ?_⟩
                          refine ⟨by (first | omega | with_reducible assumption | (unfold rng; omega) | (unfold rng; (repeat' split) <;> omega)), ?_⟩
                          refine ⟨by (first | omega | with_reducible assumption | (unfold rng; omega) | (unfold rng; (repeat' split) <;> omega)), ?_⟩
                          refine ih149 _ _ ?_ ?_ ?_ ?_
                          · refine Rg.aJ g ?_ (by simp only [rlT]; first | with_reducible assumption | omega | exact Int64.toInt_le _ | (rw [Int64.toInt_ofInt_of_le (by omega) (by omega)]; omega) | grind); refine Rg.aI g ?_ (by simp only [rgT]; first | with_reducible exact nZ_rng _ | with_reducible exact nB_rng _ | with_reducible exact wr_rng _ | with_reducible exact i32any _ | (first | omega | with_reducible assumption | (unfold rng; omega) | (unfold rng; (repeat' split) <;> omega))); refine Rg.aJ g ?_ (by simp only [rlT]; first | with_reducible assumption | omega | exact Int64.toInt_le _ | (rw [Int64.toInt_ofInt_of_le (by omega) (by omega)]; omega) | grind); refine Rg.aI g ?_ (by simp only [rgT]; first | with_reducible exact nZ_rng _ | with_reducible exact nB_rng _ | with_reducible exact wr_rng _ | with_reducible exact i32any _ | (first | omega | with_reducible assumption | (unfold rng; omega) | (unfold rng; (repeat' split) <;> omega))); refine Rg.aI g ?_ (by simp only [rgT]; first | with_reducible exact nZ_rng _ | with_reducible exact nB_rng _ | with_reducible exact wr_rng _ | with_reducible exact i32any _ | (first | omega | with_reducible assumption | (unfold rng; omega) | (unfold rng; (repeat' split) <;> omega))); exact rτ149
                          · refine Fr.aJ g ?_ (by decide); refine Fr.aI g ?_ (by decide); refine Fr.aJ g ?_ (by decide); refine Fr.aI g ?_ (by decide); refine Fr.aI g ?_ (by decide); exact fτ149
                          · refine ⟨by omega, by omega, ?_, ?_, ?_, ?_, ?_⟩ <;> (try simp only [rII, rIJ, rIP, rJJ, rJI, rJP, rPP, rPI, rPJ, g1, g2, g3, g4, g5, g6, g7, g8, Nat.reduceEqDiff, Nat.reduceAdd, false_and, and_false, true_and, and_true, reduceIte, nZ0, nZ1, fun a k => (jτ149 a k).1, fun a k => (jτ149 a k).2]) <;> first | omega | with_reducible assumption | (intro i hi; (try simp only [rII, rIJ, rIP, rJJ, rJI, rJP, rPP, rPI, rPJ, g1, g2, g3, g4, g5, g6, g7, g8, Nat.reduceEqDiff, Nat.reduceAdd, false_and, and_false, true_and, and_true, reduceIte, nZ0, nZ1, fun a k => (jτ149 a k).1, fun a k => (jτ149 a k).2]) <;> first | omega | exact hf9 i (by omega) | exact hg9 i (by omega) | exact hh9 i (by omega) | (have w9 := hg9 i; refine ⟨?_, ?_, ?_⟩ <;> (split <;> omega)) | (have w9 := hh9 i; split <;> omega))
                          · (try simp only [rII, rIJ, rIP, rJJ, rJI, rJP, rPP, rPI, rPJ, g1, g2, g3, g4, g5, g6, g7, g8, Nat.reduceEqDiff, Nat.reduceAdd, false_and, and_false, true_and, and_true, reduceIte, nZ0, nZ1, fun a k => (jτ149 a k).1, fun a k => (jτ149 a k).2]) <;> (first | omega | with_reducible assumption | (unfold rng; omega) | (unfold rng; (repeat' split) <;> omega))
                    refine ⟨_, L149 _ _ _ ?_ ?_ ?_ (Nat.lt_succ_self _)⟩
                    · exact rτ128
                    · exact fτ128
                    · refine ⟨by omega, by omega, ?_, ?_, ?_, ?_, ?_⟩ <;> (try simp only [rII, rIJ, rIP, rJJ, rJI, rJP, rPP, rPI, rPJ, g1, g2, g3, g4, g5, g6, g7, g8, Nat.reduceEqDiff, Nat.reduceAdd, false_and, and_false, true_and, and_true, reduceIte, nZ0, nZ1, fun a k => (jτ128 a k).1, fun a k => (jτ128 a k).2]) <;> first | omega | with_reducible assumption | (intro i hi; (try simp only [rII, rIJ, rIP, rJJ, rJI, rJP, rPP, rPI, rPJ, g1, g2, g3, g4, g5, g6, g7, g8, Nat.reduceEqDiff, Nat.reduceAdd, false_and, and_false, true_and, and_true, reduceIte, nZ0, nZ1, fun a k => (jτ128 a k).1, fun a k => (jτ128 a k).2]) <;> first | omega | exact hf9 i (by omega) | exact hg9 i (by omega) | exact hh9 i (by omega) | (have w9 := hg9 i; refine ⟨?_, ?_, ?_⟩ <;> (split <;> omega)) | (have w9 := hh9 i; split <;> omega))
                  · rename_i hc131
                    skip
                    unfold w_X16_empty_134
                    try simp only [forall_eq, rII, rIJ, rIP, rJJ, rJI, rJP, rPP, rPI, rPJ, g1, g2, g3, g4, g5, g6, g7, g8, Nat.reduceEqDiff, Nat.reduceAdd, false_and, and_false, true_and, and_true, reduceIte, nZ0, nZ1, fun a k => (jτ128 a k).1, fun a k => (jτ128 a k).2]
                    refine ⟨by (first | omega | with_reducible assumption | (unfold rng; omega) | (unfold rng; (repeat' split) <;> omega)), ?_⟩
                    refine ⟨by (first | omega | with_reducible assumption | (unfold rng; omega) | (unfold rng; (repeat' split) <;> omega)), ?_⟩
                    refine ih128 _ _ ?_ ?_ ?_ ?_
                    · refine Rg.aJ g ?_ (by simp only [rlT]; first | with_reducible assumption | omega | exact Int64.toInt_le _ | (rw [Int64.toInt_ofInt_of_le (by omega) (by omega)]; omega) | grind); exact rτ128
                    · refine Fr.aJ g ?_ (by decide); exact fτ128
                    · refine ⟨by omega, by omega, ?_, ?_, ?_, ?_⟩ <;> (try simp only [rII, rIJ, rIP, rJJ, rJI, rJP, rPP, rPI, rPJ, g1, g2, g3, g4, g5, g6, g7, g8, Nat.reduceEqDiff, Nat.reduceAdd, false_and, and_false, true_and, and_true, reduceIte, nZ0, nZ1, fun a k => (jτ128 a k).1, fun a k => (jτ128 a k).2]) <;> first | omega | with_reducible assumption | (intro i hi; (try simp only [rII, rIJ, rIP, rJJ, rJI, rJP, rPP, rPI, rPJ, g1, g2, g3, g4, g5, g6, g7, g8, Nat.reduceEqDiff, Nat.reduceAdd, false_and, and_false, true_and, and_true, reduceIte, nZ0, nZ1, fun a k => (jτ128 a k).1, fun a k => (jτ128 a k).2]) <;> first | omega | exact hf9 i (by omega) | exact hg9 i (by omega) | exact hh9 i (by omega) | (have w9 := hg9 i; refine ⟨?_, ?_, ?_⟩ <;> (split <;> omega)) | (have w9 := hh9 i; split <;> omega))
                    · (try simp only [rII, rIJ, rIP, rJJ, rJI, rJP, rPP, rPI, rPJ, g1, g2, g3, g4, g5, g6, g7, g8, Nat.reduceEqDiff, Nat.reduceAdd, false_and, and_false, true_and, and_true, reduceIte, nZ0, nZ1, fun a k => (jτ128 a k).1, fun a k => (jτ128 a k).2]) <;> (first | omega | with_reducible assumption | (unfold rng; omega) | (unfold rng; (repeat' split) <;> omega))
              refine ⟨_, L128 _ _ _ ?_ ?_ ?_ (Nat.lt_succ_self _)⟩
              · exact rτ49
              · exact fτ49
              · refine ⟨by omega, by omega, ?_, ?_, ?_, ?_⟩ <;> (try simp only [rII, rIJ, rIP, rJJ, rJI, rJP, rPP, rPI, rPJ, g1, g2, g3, g4, g5, g6, g7, g8, Nat.reduceEqDiff, Nat.reduceAdd, false_and, and_false, true_and, and_true, reduceIte, nZ0, nZ1, fun a k => (jτ49 a k).1, fun a k => (jτ49 a k).2]) <;> first | omega | with_reducible assumption | (intro i hi; (try simp only [rII, rIJ, rIP, rJJ, rJI, rJP, rPP, rPI, rPJ, g1, g2, g3, g4, g5, g6, g7, g8, Nat.reduceEqDiff, Nat.reduceAdd, false_and, and_false, true_and, and_true, reduceIte, nZ0, nZ1, fun a k => (jτ49 a k).1, fun a k => (jτ49 a k).2]) <;> first | omega | exact hf9 i (by omega) | exact hg9 i (by omega) | exact hh9 i (by omega) | (have w9 := hg9 i; refine ⟨?_, ?_, ?_⟩ <;> (split <;> omega)) | (have w9 := hh9 i; split <;> omega))
            · rename_i hc52
              skip
              unfold w_X16_empty_55
              try simp only [forall_eq, rII, rIJ, rIP, rJJ, rJI, rJP, rPP, rPI, rPJ, g1, g2, g3, g4, g5, g6, g7, g8, Nat.reduceEqDiff, Nat.reduceAdd, false_and, and_false, true_and, and_true, reduceIte, nZ0, nZ1, fun a k => (jτ49 a k).1, fun a k => (jτ49 a k).2]
              refine ⟨by (first | omega | with_reducible assumption | (unfold rng; omega) | (unfold rng; (repeat' split) <;> omega)), ?_⟩
              refine ⟨by (first | omega | with_reducible assumption | (unfold rng; omega) | (unfold rng; (repeat' split) <;> omega)), ?_⟩
              refine ⟨by (first | omega | with_reducible assumption | (unfold rng; omega) | (unfold rng; (repeat' split) <;> omega)), ?_⟩
              refine ⟨by (first | omega | with_reducible assumption | (unfold rng; omega) | (unfold rng; (repeat' split) <;> omega)), ?_⟩
              refine ⟨by (first | omega | with_reducible assumption | (unfold rng; omega) | (unfold rng; (repeat' split) <;> omega)), ?_⟩
              refine ⟨by (first | omega | with_reducible assumption | (unfold rng; omega) | (unfold rng; (repeat' split) <;> omega)), ?_⟩
              refine ⟨by (first | omega | with_reducible assumption | (unfold rng; omega) | (unfold rng; (repeat' split) <;> omega)), ?_⟩
              refine ⟨by (first | omega | with_reducible assumption | (unfold rng; omega) | (unfold rng; (repeat' split) <;> omega)), ?_⟩
              refine ⟨by (first | omega | with_reducible assumption | (unfold rng; omega) | (unfold rng; (repeat' split) <;> omega)), ?_⟩
              refine ⟨by (first | omega | with_reducible assumption | (unfold rng; omega) | (unfold rng; (repeat' split) <;> omega)), ?_⟩
              refine ih49 _ _ ?_ ?_ ?_ ?_
              · refine Rg.aI g ?_ (by simp only [rgT]; first | with_reducible exact nZ_rng _ | with_reducible exact nB_rng _ | with_reducible exact wr_rng _ | with_reducible exact i32any _ | (first | omega | with_reducible assumption | (unfold rng; omega) | (unfold rng; (repeat' split) <;> omega))); refine Rg.aI g ?_ (by simp only [rgT]; first | with_reducible exact nZ_rng _ | with_reducible exact nB_rng _ | with_reducible exact wr_rng _ | with_reducible exact i32any _ | (first | omega | with_reducible assumption | (unfold rng; omega) | (unfold rng; (repeat' split) <;> omega))); refine Rg.aI g ?_ (by simp only [rgT]; first | with_reducible exact nZ_rng _ | with_reducible exact nB_rng _ | with_reducible exact wr_rng _ | with_reducible exact i32any _ | (first | omega | with_reducible assumption | (unfold rng; omega) | (unfold rng; (repeat' split) <;> omega))); refine Rg.aI g ?_ (by simp only [rgT]; first | with_reducible exact nZ_rng _ | with_reducible exact nB_rng _ | with_reducible exact wr_rng _ | with_reducible exact i32any _ | (first | omega | with_reducible assumption | (unfold rng; omega) | (unfold rng; (repeat' split) <;> omega))); refine Rg.aI g ?_ (by simp only [rgT]; first | with_reducible exact nZ_rng _ | with_reducible exact nB_rng _ | with_reducible exact wr_rng _ | with_reducible exact i32any _ | (first | omega | with_reducible assumption | (unfold rng; omega) | (unfold rng; (repeat' split) <;> omega))); refine Rg.aI g ?_ (by simp only [rgT]; first | with_reducible exact nZ_rng _ | with_reducible exact nB_rng _ | with_reducible exact wr_rng _ | with_reducible exact i32any _ | (first | omega | with_reducible assumption | (unfold rng; omega) | (unfold rng; (repeat' split) <;> omega))); refine Rg.aI g ?_ (by simp only [rgT]; first | with_reducible exact nZ_rng _ | with_reducible exact nB_rng _ | with_reducible exact wr_rng _ | with_reducible exact i32any _ | (first | omega | with_reducible assumption | (unfold rng; omega) | (unfold rng; (repeat' split) <;> omega))); refine Rg.aI g ?_ (by simp only [rgT]; first | with_reducible exact nZ_rng _ | with_reducible exact nB_rng _ | with_reducible exact wr_rng _ | with_reducible exact i32any _ | (first | omega | with_reducible assumption | (unfold rng; omega) | (unfold rng; (repeat' split) <;> omega))); refine Rg.aJ g ?_ (by simp only [rlT]; first | with_reducible assumption | omega | exact Int64.toInt_le _ | (rw [Int64.toInt_ofInt_of_le (by omega) (by omega)]; omega) | grind); exact rτ49
              · refine Fr.aI g ?_ (by decide); refine Fr.aI g ?_ (by decide); refine Fr.aI g ?_ (by decide); refine Fr.aI g ?_ (by decide); refine Fr.aI g ?_ (by decide); refine Fr.aI g ?_ (by decide); refine Fr.aI g ?_ (by decide); refine Fr.aI g ?_ (by decide); refine Fr.aJ g ?_ (by decide); exact fτ49
              · refine ⟨by omega, by omega, ?_, ?_, ?_, ?_⟩ <;> (try simp only [rII, rIJ, rIP, rJJ, rJI, rJP, rPP, rPI, rPJ, g1, g2, g3, g4, g5, g6, g7, g8, Nat.reduceEqDiff, Nat.reduceAdd, false_and, and_false, true_and, and_true, reduceIte, nZ0, nZ1, fun a k => (jτ49 a k).1, fun a k => (jτ49 a k).2]) <;> first | omega | with_reducible assumption | (intro i hi; (try simp only [rII, rIJ, rIP, rJJ, rJI, rJP, rPP, rPI, rPJ, g1, g2, g3, g4, g5, g6, g7, g8, Nat.reduceEqDiff, Nat.reduceAdd, false_and, and_false, true_and, and_true, reduceIte, nZ0, nZ1, fun a k => (jτ49 a k).1, fun a k => (jτ49 a k).2]) <;> first | omega | exact hf9 i (by omega) | exact hg9 i (by omega) | exact hh9 i (by omega) | (have w9 := hg9 i; refine ⟨?_, ?_, ?_⟩ <;> (split <;> omega)) | (have w9 := hh9 i; split <;> omega))
              · (try simp only [rII, rIJ, rIP, rJJ, rJI, rJP, rPP, rPI, rPJ, g1, g2, g3, g4, g5, g6, g7, g8, Nat.reduceEqDiff, Nat.reduceAdd, false_and, and_false, true_and, and_true, reduceIte, nZ0, nZ1, fun a k => (jτ49 a k).1, fun a k => (jτ49 a k).2]) <;> (first | omega | with_reducible assumption | (unfold rng; omega) | (unfold rng; (repeat' split) <;> omega))
        refine ⟨_, L49 _ _ _ ?_ ?_ ?_ (Nat.lt_succ_self _)⟩
        · refine Rg.sI g ?_ (by simp only [rgS]; first | with_reducible exact nZ_rng _ | with_reducible exact nB_rng _ | with_reducible exact wr_rng _ | with_reducible exact i32any _ | (first | omega | with_reducible assumption | (unfold rng; omega) | (unfold rng; (repeat' split) <;> omega))); refine Rg.sI g ?_ (by simp only [rgS]; first | with_reducible exact nZ_rng _ | with_reducible exact nB_rng _ | with_reducible exact wr_rng _ | with_reducible exact i32any _ | (first | omega | with_reducible assumption | (unfold rng; omega) | (unfold rng; (repeat' split) <;> omega))); exact rτ2
        · refine Fr.sI g ?_ (by decide); refine Fr.sI g ?_ (by decide); exact fτ2
        · refine ⟨by omega, by omega, ?_, ?_, ?_, ?_⟩ <;> (try simp only [rII, rIJ, rIP, rJJ, rJI, rJP, rPP, rPI, rPJ, g1, g2, g3, g4, g5, g6, g7, g8, Nat.reduceEqDiff, Nat.reduceAdd, false_and, and_false, true_and, and_true, reduceIte, nZ0, nZ1, fun a k => (jτ2 a k).1, fun a k => (jτ2 a k).2]) <;> first | omega | with_reducible assumption | (intro i hi; (try simp only [rII, rIJ, rIP, rJJ, rJI, rJP, rPP, rPI, rPJ, g1, g2, g3, g4, g5, g6, g7, g8, Nat.reduceEqDiff, Nat.reduceAdd, false_and, and_false, true_and, and_true, reduceIte, nZ0, nZ1, fun a k => (jτ2 a k).1, fun a k => (jτ2 a k).2]) <;> first | omega | exact hf9 i (by omega) | exact hg9 i (by omega) | exact hh9 i (by omega) | (have w9 := hg9 i; refine ⟨?_, ?_, ?_⟩ <;> (split <;> omega)) | (have w9 := hh9 i; split <;> omega))
      · rename_i hc6
        skip
        unfold w_X16_empty_9
        try simp only [forall_eq, rII, rIJ, rIP, rJJ, rJI, rJP, rPP, rPI, rPJ, g1, g2, g3, g4, g5, g6, g7, g8, Nat.reduceEqDiff, Nat.reduceAdd, false_and, and_false, true_and, and_true, reduceIte, nZ0, nZ1, fun a k => (jτ2 a k).1, fun a k => (jτ2 a k).2]
        refine ⟨by (first | omega | with_reducible assumption | (unfold rng; omega) | (unfold rng; (repeat' split) <;> omega)), ?_⟩
        split
        · rename_i hc20
          skip
          unfold w_X16_empty_29
          try simp only [forall_eq, rII, rIJ, rIP, rJJ, rJI, rJP, rPP, rPI, rPJ, g1, g2, g3, g4, g5, g6, g7, g8, Nat.reduceEqDiff, Nat.reduceAdd, false_and, and_false, true_and, and_true, reduceIte, nZ0, nZ1, fun a k => (jτ2 a k).1, fun a k => (jτ2 a k).2]
          unfold w_X16_empty_30
          try simp only [forall_eq, rII, rIJ, rIP, rJJ, rJI, rJP, rPP, rPI, rPJ, g1, g2, g3, g4, g5, g6, g7, g8, Nat.reduceEqDiff, Nat.reduceAdd, false_and, and_false, true_and, and_true, reduceIte, nZ0, nZ1, fun a k => (jτ2 a k).1, fun a k => (jτ2 a k).2]
          refine ⟨by (first | omega | with_reducible assumption | (unfold rng; omega) | (unfold rng; (repeat' split) <;> omega)), ?_⟩
          refine ⟨by (first | omega | with_reducible assumption | (unfold rng; omega) | (unfold rng; (repeat' split) <;> omega)), ?_⟩
          refine ih2 _ _ ?_ ?_ ?_ ?_
          · refine Rg.aI g ?_ (by simp only [rgT]; first | with_reducible exact nZ_rng _ | with_reducible exact nB_rng _ | with_reducible exact wr_rng _ | with_reducible exact i32any _ | (first | omega | with_reducible assumption | (unfold rng; omega) | (unfold rng; (repeat' split) <;> omega))); exact rτ2
          · refine Fr.aI g ?_ (by decide); exact fτ2
          · refine ⟨?_, ?_, ?_⟩ <;> (first | omega | (intro i hi; (try simp only [rII, rIJ, rIP, rJJ, rJI, rJP, rPP, rPI, rPJ, g1, g2, g3, g4, g5, g6, g7, g8, Nat.reduceEqDiff, Nat.reduceAdd, false_and, and_false, true_and, and_true, reduceIte, nZ0, nZ1, fun a k => (jτ2 a k).1, fun a k => (jτ2 a k).2]) <;> (repeat' split) <;> first | omega | (have w9 := hf9 i; (try simp only [rII, rIJ, rIP, rJJ, rJI, rJP, rPP, rPI, rPJ, g1, g2, g3, g4, g5, g6, g7, g8, Nat.reduceEqDiff, Nat.reduceAdd, false_and, and_false, true_and, and_true, reduceIte, nZ0, nZ1, fun a k => (jτ2 a k).1, fun a k => (jτ2 a k).2] at w9) <;> (repeat' split at w9) <;> omega)))
          · (try simp only [rII, rIJ, rIP, rJJ, rJI, rJP, rPP, rPI, rPJ, g1, g2, g3, g4, g5, g6, g7, g8, Nat.reduceEqDiff, Nat.reduceAdd, false_and, and_false, true_and, and_true, reduceIte, nZ0, nZ1, fun a k => (jτ2 a k).1, fun a k => (jτ2 a k).2]) <;> (first | omega | with_reducible assumption | (unfold rng; omega) | (unfold rng; (repeat' split) <;> omega))
        · rename_i hc20
          skip
          unfold w_X16_empty_23
          try simp only [forall_eq, rII, rIJ, rIP, rJJ, rJI, rJP, rPP, rPI, rPJ, g1, g2, g3, g4, g5, g6, g7, g8, Nat.reduceEqDiff, Nat.reduceAdd, false_and, and_false, true_and, and_true, reduceIte, nZ0, nZ1, fun a k => (jτ2 a k).1, fun a k => (jτ2 a k).2]
          refine ⟨by (first | omega | with_reducible assumption | (unfold rng; omega) | (unfold rng; (repeat' split) <;> omega)), ?_⟩
          unfold w_X16_empty_30
          try simp only [forall_eq, rII, rIJ, rIP, rJJ, rJI, rJP, rPP, rPI, rPJ, g1, g2, g3, g4, g5, g6, g7, g8, Nat.reduceEqDiff, Nat.reduceAdd, false_and, and_false, true_and, and_true, reduceIte, nZ0, nZ1, fun a k => (jτ2 a k).1, fun a k => (jτ2 a k).2]
          refine ⟨by (first | omega | with_reducible assumption | (unfold rng; omega) | (unfold rng; (repeat' split) <;> omega)), ?_⟩
          refine ⟨by (first | omega | with_reducible assumption | (unfold rng; omega) | (unfold rng; (repeat' split) <;> omega)), ?_⟩
          refine ih2 _ _ ?_ ?_ ?_ ?_
          · refine Rg.aI g ?_ (by simp only [rgT]; first | with_reducible exact nZ_rng _ | with_reducible exact nB_rng _ | with_reducible exact wr_rng _ | with_reducible exact i32any _ | (first | omega | with_reducible assumption | (unfold rng; omega) | (unfold rng; (repeat' split) <;> omega))); exact rτ2
          · refine Fr.aI g ?_ (by decide); exact fτ2
          · refine ⟨?_, ?_, ?_⟩ <;> (first | omega | (intro i hi; (try simp only [rII, rIJ, rIP, rJJ, rJI, rJP, rPP, rPI, rPJ, g1, g2, g3, g4, g5, g6, g7, g8, Nat.reduceEqDiff, Nat.reduceAdd, false_and, and_false, true_and, and_true, reduceIte, nZ0, nZ1, fun a k => (jτ2 a k).1, fun a k => (jτ2 a k).2]) <;> (repeat' split) <;> first | omega | (have w9 := hf9 i; (try simp only [rII, rIJ, rIP, rJJ, rJI, rJP, rPP, rPI, rPJ, g1, g2, g3, g4, g5, g6, g7, g8, Nat.reduceEqDiff, Nat.reduceAdd, false_and, and_false, true_and, and_true, reduceIte, nZ0, nZ1, fun a k => (jτ2 a k).1, fun a k => (jτ2 a k).2] at w9) <;> (repeat' split at w9) <;> omega)))
          · (try simp only [rII, rIJ, rIP, rJJ, rJI, rJP, rPP, rPI, rPJ, g1, g2, g3, g4, g5, g6, g7, g8, Nat.reduceEqDiff, Nat.reduceAdd, false_and, and_false, true_and, and_true, reduceIte, nZ0, nZ1, fun a k => (jτ2 a k).1, fun a k => (jτ2 a k).2]) <;> (first | omega | with_reducible assumption | (unfold rng; omega) | (unfold rng; (repeat' split) <;> omega))
  refine ⟨_, L2 _ _ _ ?_ ?_ ?_ (Nat.lt_succ_self _)⟩
  · exact rσ
  · exact fσ
  · refine ⟨?_, ?_, ?_⟩ <;> (first | omega | (intro i hi; (try simp only [rII, rIJ, rIP, rJJ, rJI, rJP, rPP, rPI, rPJ, g1, g2, g3, g4, g5, g6, g7, g8, Nat.reduceEqDiff, Nat.reduceAdd, false_and, and_false, true_and, and_true, reduceIte, nZ0, nZ1]) <;> (repeat' split) <;> first | omega | (have w9 := hf9 i; (try simp only [rII, rIJ, rIP, rJJ, rJI, rJP, rPP, rPI, rPJ, g1, g2, g3, g4, g5, g6, g7, g8, Nat.reduceEqDiff, Nat.reduceAdd, false_and, and_false, true_and, and_true, reduceIte, nZ0, nZ1] at w9) <;> (repeat' split at w9) <;> omega)))
set_option maxHeartbeats 8000000 in
theorem s_X16_beginAgain {ra : Nat → Nat} {jx : Nat → Nat → Nat} {rm : Nat} {ja : Nat} (g : Geo ra jx rm) {σ : Sg} {v1 : Int} (rσ : Rg ra jx rm σ) (hj : gP σ rm 17 = some ja) (hja : ja = ra 15 ∨ ja = ra 16) (hjo : JobOK jx ja σ) (hhe : HeE ra rm σ) (hmk : MkI ra jx ja σ) (h1 : 1 ≤ v1 ∧ v1 ≤ 4) {Q : Sg → Int → Prop} {X : Sg → String → Prop} (hQ : ∀ (σ' : Sg) (r : Int), Rg ra jx rm σ' → Fr ra jx rm [37, 38, 39, 40, 41, 42, 43, 44, 45, 46, 47, 48, 49, 51, 52, 53, 54, 55, 56, 57, 58, 60, 61, 62, 63, 64, 65, 68, 69, 70, 71, 72, 73, 74, 75, 76, 77, 78, 86, 87, 88, 89] [31, 33, 36, 50, 66, 67, 79, 80, 90, 91, 93, 112] σ σ' → (gP σ' rm 17 = some ja ∧ ((ThE ra rm σ' ∧ RecE ra jx rm ja σ' ∧ HeE ra rm σ' ∧ MkI ra jx ja σ') ∧ LcI ra rm σ' ∧ (∀ i : Nat, i < 1100 → gI σ' (ra 54) i ≤ gI σ' rm 34)) ∧ 1 ≤ gI σ' rm 33 ∧ JobOK jx ja σ' ∧ 1 ≤ gI σ' rm 36 ∧ LyI ra jx rm ja σ') → Q σ' r) : wp_X16_beginAgain ra jx rm v1 σ Q X := by
  obtain ⟨g1, g2, g3, g4, g5, g6, g7, g8⟩ := id g
  have fσ : Fr ra jx rm [37, 38, 39, 40, 41, 42, 43, 44, 45, 46, 47, 48, 49, 51, 52, 53, 54, 55, 56, 57, 58, 60, 61, 62, 63, 64, 65, 68, 69, 70, 71, 72, 73, 74, 75, 76, 77, 78, 86, 87, 88, 89] [31, 33, 36, 50, 66, 67, 79, 80, 90, 91, 93, 112] σ σ := Fr.rf
  have hm := hjo.1; have hm1 := hjo.2.1
  have h34 := rσ.2.1 34; simp only [rgS] at h34
  unfold wp_X16_beginAgain
  unfold w_X16_beginAgain_0
  try simp only [forall_eq, rII, rIJ, rIP, rJJ, rJI, rJP, rPP, rPI, rPJ, g1, g2, g3, g4, g5, g6, g7, g8, Nat.reduceEqDiff, Nat.reduceAdd, false_and, and_false, true_and, and_true, reduceIte, nZ0, nZ1]
  have q1 := rσ.2.1 112; simp only [rgS] at q1
  refine s_X16_layOut g (by refine Rg.sI g ?_ (by simp only [rgS]; first | with_reducible exact nZ_rng _ | with_reducible exact nB_rng _ | with_reducible exact wr_rng _ | with_reducible exact i32any _ | (first | omega | with_reducible assumption | (unfold rng; omega) | (unfold rng; (repeat' split) <;> omega))); refine Rg.sI g ?_ (by simp only [rgS]; first | with_reducible exact nZ_rng _ | with_reducible exact nB_rng _ | with_reducible exact wr_rng _ | with_reducible exact i32any _ | (first | omega | with_reducible assumption | (unfold rng; omega) | (unfold rng; (repeat' split) <;> omega))); refine Rg.sI g ?_ (by simp only [rgS]; first | with_reducible exact nZ_rng _ | with_reducible exact nB_rng _ | with_reducible exact wr_rng _ | with_reducible exact i32any _ | (first | omega | with_reducible assumption | (unfold rng; omega) | (unfold rng; (repeat' split) <;> omega))); refine Rg.sI g ?_ (by simp only [rgS]; first | with_reducible exact nZ_rng _ | with_reducible exact nB_rng _ | with_reducible exact wr_rng _ | with_reducible exact i32any _ | (first | omega | with_reducible assumption | (unfold rng; omega) | (unfold rng; (repeat' split) <;> omega))); exact rσ) (by (try simp only [rII, rIJ, rIP, rJJ, rJI, rJP, rPP, rPI, rPJ, g1, g2, g3, g4, g5, g6, g7, g8, Nat.reduceEqDiff, Nat.reduceAdd, false_and, and_false, true_and, and_true, reduceIte, nZ0, nZ1]) <;> exact hj) hja (JobOK.fr (K := []) (S := [33, 93, 31, 112]) hjo hja (by repeat (first | exact Fr.rf | assumption | refine Fr.aJ g ?_ (by decide) | refine Fr.aI g ?_ (by decide) | refine Fr.sI g ?_ (by decide) | refine Fr.sJ g ?_ (by decide))) (by decide)) (by (try simp only [rII, rIJ, rIP, rJJ, rJI, rJP, rPP, rPI, rPJ, g1, g2, g3, g4, g5, g6, g7, g8, Nat.reduceEqDiff, Nat.reduceAdd, false_and, and_false, true_and, and_true, reduceIte, nZ0, nZ1]) <;> (first | omega | with_reducible assumption | (unfold rng; omega) | (unfold rng; (repeat' split) <;> omega))) (fun σ25 _ rσ25 fc p2 => ?_)
  have fσ25 : Fr ra jx rm [37, 38, 39, 40, 41, 42, 43, 44, 45, 46, 47, 48, 49, 51, 52, 53, 54, 55, 56, 57, 58, 60, 61, 62, 63, 64, 65, 68, 69, 70, 71, 72, 73, 74, 75, 76, 77, 78, 86, 87, 88, 89] [31, 33, 36, 50, 66, 67, 79, 80, 90, 91, 93, 112] σ σ25 := Fr.tr (by refine Fr.sI g ?_ (by decide); refine Fr.sI g ?_ (by decide); refine Fr.sI g ?_ (by decide); refine Fr.sI g ?_ (by decide); exact fσ) (Fr.mor (fc) (by decide) (by decide))
  have lo9 := p2
  have c0 := congrFun (Fr.ob fc hja (by decide)) 0
  rw [← c0] at lo9
  have ly9 := LyI.of lo9.1.2 lo9.2.1
  have c1 := congrFun (Fr.ob fσ25 hja (by decide)) 0
  rw [c1] at lo9
  have lft := lo9.1; have l36 := lo9.2.2
  have e9 := HeE.fr (HeE.fr (jx := jx) (K := []) (S := [33, 93, 31, 112]) hhe (by repeat (first | exact Fr.rf | assumption | refine Fr.aJ g ?_ (by decide) | refine Fr.aI g ?_ (by decide) | refine Fr.sI g ?_ (by decide) | refine Fr.sJ g ?_ (by decide))) (by decide) (by decide)) fc (by decide) (by decide)
  have m9 := MkI.fr hmk fσ25 (by decide)
  have l33 : 1 ≤ gI σ25 rm 33 := by rw [(fc.2.1 33 (by decide)).1]; (try simp only [rII, rIJ, rIP, rJJ, rJI, rJP, rPP, rPI, rPJ, g1, g2, g3, g4, g5, g6, g7, g8, Nat.reduceEqDiff, Nat.reduceAdd, false_and, and_false, true_and, and_true, reduceIte, nZ0, nZ1]) <;> exact h1.1
  have sσ25_34 := fσ25.2.1 34 (by decide)
  have sσ25_92 := fσ25.2.1 92 (by decide)
  have jσ25 := fσ25.2.2.1
  have pσ25 := fσ25.2.2.2
  have obσ25 := Fr.ob fσ25 hja (by decide)
  try simp only [forall_eq, rII, rIJ, rIP, rJJ, rJI, rJP, rPP, rPI, rPJ, g1, g2, g3, g4, g5, g6, g7, g8, Nat.reduceEqDiff, Nat.reduceAdd, false_and, and_false, true_and, and_true, reduceIte, nZ0, nZ1, sσ25_34.1, sσ25_34.2, sσ25_92.1, sσ25_92.2, fun a k => (jσ25 a k).1, fun a k => (jσ25 a k).2, pσ25, obσ25]
  refine s2_X16_empty g rσ25 (fun σ26 _ rσ26 fc p3 => ?_)
  have fσ26 : Fr ra jx rm [37, 38, 39, 40, 41, 42, 43, 44, 45, 46, 47, 48, 49, 51, 52, 53, 54, 55, 56, 57, 58, 60, 61, 62, 63, 64, 65, 68, 69, 70, 71, 72, 73, 74, 75, 76, 77, 78, 86, 87, 88, 89] [31, 33, 36, 50, 66, 67, 79, 80, 90, 91, 93, 112] σ σ26 := Fr.tr fσ25 (Fr.mor (fc) (by decide) (by decide))
  have e9 := HeE.fr e9 fc (by decide) (by decide)
  have b9 : BgI ra jx rm ja (gI σ ja 0) σ26 := ⟨p3.1, LyFT.fr lft fc (by decide) (by decide), LyI.fr ly9 hja fc (by decide) (by decide), MkI.fr m9 fc (by decide), p3.2.2.2, p3.2.1, LcI.none p3.2.2.1, by rw [(fc.2.1 36 (by decide)).1]; exact l36, by rw [(fc.2.1 33 (by decide)).1]; exact l33⟩
  have sσ26_34 := fσ26.2.1 34 (by decide)
  have sσ26_92 := fσ26.2.1 92 (by decide)
  have jσ26 := fσ26.2.2.1
  have pσ26 := fσ26.2.2.2
  have obσ26 := Fr.ob fσ26 hja (by decide)
  try simp only [forall_eq, rII, rIJ, rIP, rJJ, rJI, rJP, rPP, rPI, rPJ, g1, g2, g3, g4, g5, g6, g7, g8, Nat.reduceEqDiff, Nat.reduceAdd, false_and, and_false, true_and, and_true, reduceIte, nZ0, nZ1, sσ26_34.1, sσ26_34.2, sσ26_92.1, sσ26_92.2, fun a k => (jσ26 a k).1, fun a k => (jσ26 a k).2, pσ26, obσ26]
  have L35 : ∀ (fu35 : Nat) (τ35 : Sg) (v2 : Int), Rg ra jx rm τ35 → Fr ra jx rm [37, 38, 39, 40, 41, 42, 43, 44, 45, 46, 47, 48, 49, 51, 52, 53, 54, 55, 56, 57, 58, 60, 61, 62, 63, 64, 65, 68, 69, 70, 71, 72, 73, 74, 75, 76, 77, 78, 86, 87, 88, 89] [31, 33, 36, 50, 66, 67, 79, 80, 90, 91, 93, 112] σ τ35 → (HeE ra rm τ35 ∧ BgI ra jx rm ja (gI σ ja 0) τ35 ∧ 0 ≤ v2 ∧ v2 ≤ gI σ ja 1) → ((gI σ ja 1 - v2).toNat) < fu35 → wl_X16_beginAgain_35 ra jx rm Q X fu35 τ35 v2 := by
    intro fu35
    induction fu35 with
    | zero => intro τ35 _ _ _ _ h9; omega
    | succ fu35 ih35 =>
      intro τ35 v2 rτ35 fτ35 hi35 hm35
      unfold wl_X16_beginAgain_35
      have sτ35_34 := fτ35.2.1 34 (by decide)
      have sτ35_92 := fτ35.2.1 92 (by decide)
      have jτ35 := fτ35.2.2.1
      have pτ35 := fτ35.2.2.2
      have obτ35 := Fr.ob fτ35 hja (by decide)
      unfold w_X16_beginAgain_35
      try simp only [forall_eq, rII, rIJ, rIP, rJJ, rJI, rJP, rPP, rPI, rPJ, g1, g2, g3, g4, g5, g6, g7, g8, Nat.reduceEqDiff, Nat.reduceAdd, false_and, and_false, true_and, and_true, reduceIte, nZ0, nZ1, sτ35_34.1, sτ35_34.2, sτ35_92.1, sτ35_92.2, fun a k => (jτ35 a k).1, fun a k => (jτ35 a k).2, pτ35, obτ35]
      obtain ⟨e9, b9, k1, k2⟩ := hi35
      have o35 := congrFun obτ35 1
      refine ⟨ja, by exact hj, hja, ?_⟩
      split
      · rename_i hc43
        skip
        unfold w_X16_beginAgain_68
        try simp only [forall_eq, rII, rIJ, rIP, rJJ, rJI, rJP, rPP, rPI, rPJ, g1, g2, g3, g4, g5, g6, g7, g8, Nat.reduceEqDiff, Nat.reduceAdd, false_and, and_false, true_and, and_true, reduceIte, nZ0, nZ1, sτ35_34.1, sτ35_34.2, sτ35_92.1, sτ35_92.2, fun a k => (jτ35 a k).1, fun a k => (jτ35 a k).2, pτ35, obτ35]
        have z0 := congrFun obτ35 0
        refine s_X16_restore g rτ35 (by first | exact hj | (rw [fτ35.2.2.2]; exact hj)) hja b9.1 b9.2.2.2.1 (JobOK.fr hjo hja fτ35 (by decide)) b9.2.2.2.2.2.2.2.2 (by rw [z0]; exact b9.2.1) b9.2.2.2.2.1 (fun σ28 _ rσ28 fc p7 => ?_)
        have fσ28 : Fr ra jx rm [37, 38, 39, 40, 41, 42, 43, 44, 45, 46, 47, 48, 49, 51, 52, 53, 54, 55, 56, 57, 58, 60, 61, 62, 63, 64, 65, 68, 69, 70, 71, 72, 73, 74, 75, 76, 77, 78, 86, 87, 88, 89] [31, 33, 36, 50, 66, 67, 79, 80, 90, 91, 93, 112] σ σ28 := Fr.tr fτ35 (Fr.mor (fc) (by decide) (by decide))
        have e9 := HeE.fr e9 fc (by decide) (by decide)
        have m9 := MkI.fr b9.2.2.2.1 fc (by decide)
        have ly9 := LyI.fr b9.2.2.1 hja fc (by decide) (by decide)
        have lc9 := LcI.fr b9.2.2.2.2.2.2.1 fc (by decide) (by decide)
        have c54 := (fc.1 54 (by decide)).1
        have c33 := (fc.2.1 33 (by decide)).1
        have c36 := (fc.2.1 36 (by decide)).1
        have b36 := b9.2.2.2.2.2.2.2.1
        have b33 := b9.2.2.2.2.2.2.2.2
        have c34 := (fσ28.2.1 34 (by decide)).1
        have h17 : gP σ28 rm 17 = some ja := by rw [fσ28.2.2.2]; exact hj
        have j9 := JobOK.fr hjo hja fσ28 (by decide)
        have p9 := p7
        have sσ28_34 := fσ28.2.1 34 (by decide)
        have sσ28_92 := fσ28.2.1 92 (by decide)
        have jσ28 := fσ28.2.2.1
        have pσ28 := fσ28.2.2.2
        have obσ28 := Fr.ob fσ28 hja (by decide)
        try simp only [forall_eq, rII, rIJ, rIP, rJJ, rJI, rJP, rPP, rPI, rPJ, g1, g2, g3, g4, g5, g6, g7, g8, Nat.reduceEqDiff, Nat.reduceAdd, false_and, and_false, true_and, and_true, reduceIte, nZ0, nZ1, sσ28_34.1, sσ28_34.2, sσ28_92.1, sσ28_92.2, fun a k => (jσ28 a k).1, fun a k => (jσ28 a k).2, pσ28, obσ28]
        have q8 := rσ.2.1 92; simp only [rgS] at q8
        refine hQ _ _ ?_ ?_ ?_
        · exact rσ28
        · exact fσ28
        · exact ⟨h17, ⟨⟨p9.2, p9.1, e9, m9⟩, lc9, fun i hi => by rw [c54, c34, b9.2.2.2.2.2.1 i (by omega)]; exact h34.1⟩, by rw [c33]; exact b33, j9, by rw [c36]; exact b36, ly9⟩
      · rename_i hc43
        skip
        unfold w_X16_beginAgain_46
        try simp only [forall_eq, rII, rIJ, rIP, rJJ, rJI, rJP, rPP, rPI, rPJ, g1, g2, g3, g4, g5, g6, g7, g8, Nat.reduceEqDiff, Nat.reduceAdd, false_and, and_false, true_and, and_true, reduceIte, nZ0, nZ1, sτ35_34.1, sτ35_34.2, sτ35_92.1, sτ35_92.2, fun a k => (jτ35 a k).1, fun a k => (jτ35 a k).2, pτ35, obτ35]
        refine ⟨by (first | omega | with_reducible assumption | (unfold rng; omega) | (unfold rng; (repeat' split) <;> omega)), ?_⟩
        refine s_X16_letGo g rτ35 e9 (by (try simp only [rII, rIJ, rIP, rJJ, rJI, rJP, rPP, rPI, rPJ, g1, g2, g3, g4, g5, g6, g7, g8, Nat.reduceEqDiff, Nat.reduceAdd, false_and, and_false, true_and, and_true, reduceIte, nZ0, nZ1, sτ35_34.1, sτ35_34.2, sτ35_92.1, sτ35_92.2, fun a k => (jτ35 a k).1, fun a k => (jτ35 a k).2, pτ35, obτ35]) <;> (first | omega | with_reducible assumption | (unfold rng; omega) | (unfold rng; (repeat' split) <;> omega))) (fun σ29 _ rσ29 fc p9 => ?_)
        have fσ29 : Fr ra jx rm [37, 38, 39, 40, 41, 42, 43, 44, 45, 46, 47, 48, 49, 51, 52, 53, 54, 55, 56, 57, 58, 60, 61, 62, 63, 64, 65, 68, 69, 70, 71, 72, 73, 74, 75, 76, 77, 78, 86, 87, 88, 89] [31, 33, 36, 50, 66, 67, 79, 80, 90, 91, 93, 112] σ σ29 := Fr.tr fτ35 (Fr.mor (fc) (by decide) (by decide))
        have e9 := p9
        have b9 := BgI.fr b9 hja fc (by decide) (by decide)
        have sσ29_34 := fσ29.2.1 34 (by decide)
        have sσ29_92 := fσ29.2.1 92 (by decide)
        have jσ29 := fσ29.2.2.1
        have pσ29 := fσ29.2.2.2
        have obσ29 := Fr.ob fσ29 hja (by decide)
        try simp only [forall_eq, rII, rIJ, rIP, rJJ, rJI, rJP, rPP, rPI, rPJ, g1, g2, g3, g4, g5, g6, g7, g8, Nat.reduceEqDiff, Nat.reduceAdd, false_and, and_false, true_and, and_true, reduceIte, nZ0, nZ1, sσ29_34.1, sσ29_34.2, sσ29_92.1, sσ29_92.2, fun a k => (jσ29 a k).1, fun a k => (jσ29 a k).2, pσ29, obσ29]
        refine ⟨by (first | omega | with_reducible assumption | (unfold rng; omega) | (unfold rng; (repeat' split) <;> omega)), ?_⟩
        refine ⟨by (first | omega | with_reducible assumption | (unfold rng; omega) | (unfold rng; (repeat' split) <;> omega)), ?_⟩
        refine s_X16_letGo g rσ29 e9 (by (try simp only [rII, rIJ, rIP, rJJ, rJI, rJP, rPP, rPI, rPJ, g1, g2, g3, g4, g5, g6, g7, g8, Nat.reduceEqDiff, Nat.reduceAdd, false_and, and_false, true_and, and_true, reduceIte, nZ0, nZ1, sσ29_34.1, sσ29_34.2, sσ29_92.1, sσ29_92.2, fun a k => (jσ29 a k).1, fun a k => (jσ29 a k).2, pσ29, obσ29]) <;> (first | omega | with_reducible assumption | (unfold rng; omega) | (unfold rng; (repeat' split) <;> omega))) (fun σ30 _ rσ30 fc p10 => ?_)
        have fσ30 : Fr ra jx rm [37, 38, 39, 40, 41, 42, 43, 44, 45, 46, 47, 48, 49, 51, 52, 53, 54, 55, 56, 57, 58, 60, 61, 62, 63, 64, 65, 68, 69, 70, 71, 72, 73, 74, 75, 76, 77, 78, 86, 87, 88, 89] [31, 33, 36, 50, 66, 67, 79, 80, 90, 91, 93, 112] σ σ30 := Fr.tr fσ29 (Fr.mor (fc) (by decide) (by decide))
        have e9 := p10
        have b9 := BgI.fr b9 hja fc (by decide) (by decide)
        have sσ30_34 := fσ30.2.1 34 (by decide)
        have sσ30_92 := fσ30.2.1 92 (by decide)
        have jσ30 := fσ30.2.2.1
        have pσ30 := fσ30.2.2.2
        have obσ30 := Fr.ob fσ30 hja (by decide)
        try simp only [forall_eq, rII, rIJ, rIP, rJJ, rJI, rJP, rPP, rPI, rPJ, g1, g2, g3, g4, g5, g6, g7, g8, Nat.reduceEqDiff, Nat.reduceAdd, false_and, and_false, true_and, and_true, reduceIte, nZ0, nZ1, sσ30_34.1, sσ30_34.2, sσ30_92.1, sσ30_92.2, fun a k => (jσ30 a k).1, fun a k => (jσ30 a k).2, pσ30, obσ30]
        refine ⟨by (first | omega | with_reducible assumption | (unfold rng; omega) | (unfold rng; (repeat' split) <;> omega)), ?_⟩
        refine ih35 _ _ ?_ ?_ ?_ ?_
        · exact rσ30
        · exact fσ30
        · first | exact ⟨e9, b9, by omega, by omega⟩
        · (try simp only [rII, rIJ, rIP, rJJ, rJI, rJP, rPP, rPI, rPJ, g1, g2, g3, g4, g5, g6, g7, g8, Nat.reduceEqDiff, Nat.reduceAdd, false_and, and_false, true_and, and_true, reduceIte, nZ0, nZ1, sσ30_34.1, sσ30_34.2, sσ30_92.1, sσ30_92.2, fun a k => (jσ30 a k).1, fun a k => (jσ30 a k).2, pσ30, obσ30]) <;> (first | omega | with_reducible assumption | (unfold rng; omega) | (unfold rng; (repeat' split) <;> omega))
  refine ⟨_, L35 _ _ _ ?_ ?_ ?_ (Nat.lt_succ_self _)⟩
  · exact rσ26
  · exact fσ26
  · first | exact ⟨e9, b9, by omega, by omega⟩
set_option maxHeartbeats 8000000 in
theorem s_X16_start {ra : Nat → Nat} {jx : Nat → Nat → Nat} {rm : Nat} {ja : Nat} (g : Geo ra jx rm) {σ : Sg} {v1 : Int} {v2 : Int} {v3 : Int64} (rσ : Rg ra jx rm σ) (hj : gP σ rm 17 = none ∨ gP σ rm 17 = some ja) (hja : ja = ra 15 ∨ ja = ra 16) (hjo : gP σ rm 17 = some ja → JobOK jx ja σ) (b1 : -2147483648 ≤ v1 ∧ v1 ≤ 2147483647) (b2 : -2147483648 ≤ v2 ∧ v2 ≤ 2147483647) {Q : Sg → Int → Prop} {X : Sg → String → Prop} (hQ : ∀ (σ' : Sg) (r : Int), Rg ra jx rm σ' → Fr ra jx rm [37, 38, 39, 40, 41, 42, 43, 44, 45, 46, 47, 48, 49, 51, 52, 53, 54, 55, 56, 57, 58, 65, 75, 76, 77, 78, 86, 87, 88, 89, 98] [0, 27, 30, 31, 33, 34, 35, 36, 50, 66, 67, 79, 80, 90, 91, 92, 93, 94, 110, 111, 112] σ σ' → ((∃ c, σ' = pI σ rm 0 c) ∨ (gP σ' rm 17 = some ja ∧ ((ThE ra rm σ' ∧ RecE ra jx rm ja σ' ∧ HeE ra rm σ' ∧ MkI ra jx ja σ') ∧ LcI ra rm σ' ∧ (∀ i : Nat, i < 1100 → gI σ' (ra 54) i ≤ gI σ' rm 34)) ∧ 1 ≤ gI σ' rm 33 ∧ JobOK jx ja σ' ∧ 1 ≤ gI σ' rm 36 ∧ LyI ra jx rm ja σ') ∧ gI σ' rm 30 = 1) → Q σ' r) : wp_X16_start ra jx rm v1 v2 v3 σ Q X := by
  obtain ⟨g1, g2, g3, g4, g5, g6, g7, g8⟩ := id g
  have fσ : Fr ra jx rm [37, 38, 39, 40, 41, 42, 43, 44, 45, 46, 47, 48, 49, 51, 52, 53, 54, 55, 56, 57, 58, 65, 75, 76, 77, 78, 86, 87, 88, 89, 98] [0, 27, 30, 31, 33, 34, 35, 36, 50, 66, 67, 79, 80, 90, 91, 92, 93, 94, 110, 111, 112] σ σ := Fr.rf
  unfold wp_X16_start
  unfold w_X16_start_0
  try simp only [forall_eq, rII, rIJ, rIP, rJJ, rJI, rJP, rPP, rPI, rPJ, g1, g2, g3, g4, g5, g6, g7, g8, Nat.reduceEqDiff, Nat.reduceAdd, false_and, and_false, true_and, and_true, reduceIte, nZ0, nZ1]
  split
  · rename_i hc5
    skip
    unfold w_X16_start_15
    try simp only [forall_eq, rII, rIJ, rIP, rJJ, rJI, rJP, rPP, rPI, rPJ, g1, g2, g3, g4, g5, g6, g7, g8, Nat.reduceEqDiff, Nat.reduceAdd, false_and, and_false, true_and, and_true, reduceIte, nZ0, nZ1]
    unfold w_X16_start_48
    try simp only [forall_eq, rII, rIJ, rIP, rJJ, rJI, rJP, rPP, rPI, rPJ, g1, g2, g3, g4, g5, g6, g7, g8, Nat.reduceEqDiff, Nat.reduceAdd, false_and, and_false, true_and, and_true, reduceIte, nZ0, nZ1]
    try rw [if_neg (by decide)]
    unfold w_X16_start_58
    try simp only [forall_eq, rII, rIJ, rIP, rJJ, rJI, rJP, rPP, rPI, rPJ, g1, g2, g3, g4, g5, g6, g7, g8, Nat.reduceEqDiff, Nat.reduceAdd, false_and, and_false, true_and, and_true, reduceIte, nZ0, nZ1]
    refine hQ _ _ ?_ ?_ ?_
    · refine Rg.sI g ?_ (by simp only [rgS]; first | with_reducible exact nZ_rng _ | with_reducible exact nB_rng _ | with_reducible exact wr_rng _ | with_reducible exact i32any _ | (first | omega | with_reducible assumption | (unfold rng; omega) | (unfold rng; (repeat' split) <;> omega))); exact rσ
    · refine Fr.sI g ?_ (by decide); exact fσ
    · first | exact Or.inl ⟨_, rfl⟩ | exact Or.inr ⟨⟨h17, ⟨⟨t9, r9, e9, m9⟩, lc9, fun i hi => by rw [c54, q10 i (by omega)]; exact z34.1⟩, by omega, j9, lo9.2.2, ly9⟩, by rw [(fc.2.1 30 (by decide)).1]; (try simp only [rII, rIJ, rIP, rJJ, rJI, rJP, rPP, rPI, rPJ, g1, g2, g3, g4, g5, g6, g7, g8, Nat.reduceEqDiff, Nat.reduceAdd, false_and, and_false, true_and, and_true, reduceIte, nZ0, nZ1])⟩
  · rename_i hc5
    skip
    unfold w_X16_start_8
    try simp only [forall_eq, rII, rIJ, rIP, rJJ, rJI, rJP, rPP, rPI, rPJ, g1, g2, g3, g4, g5, g6, g7, g8, Nat.reduceEqDiff, Nat.reduceAdd, false_and, and_false, true_and, and_true, reduceIte, nZ0, nZ1]
    have q1 := rσ.2.1 32; simp only [rgS] at q1
    split
    · rename_i hc12
      skip
      unfold w_X16_start_19
      try simp only [forall_eq, rII, rIJ, rIP, rJJ, rJI, rJP, rPP, rPI, rPJ, g1, g2, g3, g4, g5, g6, g7, g8, Nat.reduceEqDiff, Nat.reduceAdd, false_and, and_false, true_and, and_true, reduceIte, nZ0, nZ1]
      refine s_X16_within g rσ (fun r25 p2 => ?_)
      obtain ⟨p2, p2b⟩ := p2
      have p2w : r25 = 1 → 1 ≤ v1 ∧ v1 ≤ 4 := fun e => win (by (first | omega | with_reducible assumption | (unfold rng; omega) | (unfold rng; (repeat' split) <;> omega))) (p2b e)
      try simp only [forall_eq, rII, rIJ, rIP, rJJ, rJI, rJP, rPP, rPI, rPJ, g1, g2, g3, g4, g5, g6, g7, g8, Nat.reduceEqDiff, Nat.reduceAdd, false_and, and_false, true_and, and_true, reduceIte, nZ0, nZ1]
      split
      · rename_i hc28
        skip
        unfold w_X16_start_43
        try simp only [forall_eq, rII, rIJ, rIP, rJJ, rJI, rJP, rPP, rPI, rPJ, g1, g2, g3, g4, g5, g6, g7, g8, Nat.reduceEqDiff, Nat.reduceAdd, false_and, and_false, true_and, and_true, reduceIte, nZ0, nZ1]
        unfold w_X16_start_48
        try simp only [forall_eq, rII, rIJ, rIP, rJJ, rJI, rJP, rPP, rPI, rPJ, g1, g2, g3, g4, g5, g6, g7, g8, Nat.reduceEqDiff, Nat.reduceAdd, false_and, and_false, true_and, and_true, reduceIte, nZ0, nZ1]
        try rw [if_neg (by decide)]
        unfold w_X16_start_58
        try simp only [forall_eq, rII, rIJ, rIP, rJJ, rJI, rJP, rPP, rPI, rPJ, g1, g2, g3, g4, g5, g6, g7, g8, Nat.reduceEqDiff, Nat.reduceAdd, false_and, and_false, true_and, and_true, reduceIte, nZ0, nZ1]
        refine hQ _ _ ?_ ?_ ?_
        · refine Rg.sI g ?_ (by simp only [rgS]; first | with_reducible exact nZ_rng _ | with_reducible exact nB_rng _ | with_reducible exact wr_rng _ | with_reducible exact i32any _ | (first | omega | with_reducible assumption | (unfold rng; omega) | (unfold rng; (repeat' split) <;> omega))); exact rσ
        · refine Fr.sI g ?_ (by decide); exact fσ
        · first | exact Or.inl ⟨_, rfl⟩ | exact Or.inr ⟨⟨h17, ⟨⟨t9, r9, e9, m9⟩, lc9, fun i hi => by rw [c54, q10 i (by omega)]; exact z34.1⟩, by omega, j9, lo9.2.2, ly9⟩, by rw [(fc.2.1 30 (by decide)).1]; (try simp only [rII, rIJ, rIP, rJJ, rJI, rJP, rPP, rPI, rPJ, g1, g2, g3, g4, g5, g6, g7, g8, Nat.reduceEqDiff, Nat.reduceAdd, false_and, and_false, true_and, and_true, reduceIte, nZ0, nZ1])⟩
      · rename_i hc28
        skip
        unfold w_X16_start_31
        try simp only [forall_eq, rII, rIJ, rIP, rJJ, rJI, rJP, rPP, rPI, rPJ, g1, g2, g3, g4, g5, g6, g7, g8, Nat.reduceEqDiff, Nat.reduceAdd, false_and, and_false, true_and, and_true, reduceIte, nZ0, nZ1]
        refine s_X16_within g rσ (fun r28 p3 => ?_)
        obtain ⟨p3, p3b⟩ := p3
        have p3w : r28 = 1 → 1 ≤ v2 ∧ v2 ≤ 8 := fun e => win (by (first | omega | with_reducible assumption | (unfold rng; omega) | (unfold rng; (repeat' split) <;> omega))) (p3b e)
        try simp only [forall_eq, rII, rIJ, rIP, rJJ, rJI, rJP, rPP, rPI, rPJ, g1, g2, g3, g4, g5, g6, g7, g8, Nat.reduceEqDiff, Nat.reduceAdd, false_and, and_false, true_and, and_true, reduceIte, nZ0, nZ1]
        split
        · rename_i hc40
          skip
          unfold w_X16_start_47
          try simp only [forall_eq, rII, rIJ, rIP, rJJ, rJI, rJP, rPP, rPI, rPJ, g1, g2, g3, g4, g5, g6, g7, g8, Nat.reduceEqDiff, Nat.reduceAdd, false_and, and_false, true_and, and_true, reduceIte, nZ0, nZ1]
          unfold w_X16_start_48
          try simp only [forall_eq, rII, rIJ, rIP, rJJ, rJI, rJP, rPP, rPI, rPJ, g1, g2, g3, g4, g5, g6, g7, g8, Nat.reduceEqDiff, Nat.reduceAdd, false_and, and_false, true_and, and_true, reduceIte, nZ0, nZ1]
          try rw [if_pos (by decide)]
          unfold w_X16_start_60
          try simp only [forall_eq, rII, rIJ, rIP, rJJ, rJI, rJP, rPP, rPI, rPJ, g1, g2, g3, g4, g5, g6, g7, g8, Nat.reduceEqDiff, Nat.reduceAdd, false_and, and_false, true_and, and_true, reduceIte, nZ0, nZ1]
          have hj2 := hj.resolve_left (by assumption)
          have hjo2 := hjo hj2
          refine s_X16_noRun g (by refine Rg.sI g ?_ (by simp only [rgS]; first | with_reducible exact nZ_rng _ | with_reducible exact nB_rng _ | with_reducible exact wr_rng _ | with_reducible exact i32any _ | (first | omega | with_reducible assumption | (unfold rng; omega) | (unfold rng; (repeat' split) <;> omega))); exact rσ) (fun σ30 _ rσ30 fc p4 => ?_)
          have fσ30 : Fr ra jx rm [37, 38, 39, 40, 41, 42, 43, 44, 45, 46, 47, 48, 49, 51, 52, 53, 54, 55, 56, 57, 58, 65, 75, 76, 77, 78, 86, 87, 88, 89, 98] [0, 27, 30, 31, 33, 34, 35, 36, 50, 66, 67, 79, 80, 90, 91, 92, 93, 94, 110, 111, 112] σ σ30 := Fr.tr (by refine Fr.sI g ?_ (by decide); exact fσ) (Fr.mor (fc) (by decide) (by decide))
          have n9 := p4
          have sσ30_32 := fσ30.2.1 32 (by decide)
          have jσ30 := fσ30.2.2.1
          have pσ30 := fσ30.2.2.2
          have obσ30 := Fr.ob fσ30 hja (by decide)
          try simp only [forall_eq, rII, rIJ, rIP, rJJ, rJI, rJP, rPP, rPI, rPJ, g1, g2, g3, g4, g5, g6, g7, g8, Nat.reduceEqDiff, Nat.reduceAdd, false_and, and_false, true_and, and_true, reduceIte, nZ0, nZ1, sσ30_32.1, sσ30_32.2, fun a k => (jσ30 a k).1, fun a k => (jσ30 a k).2, pσ30, obσ30]
          refine s_X16_layOut g (by refine Rg.sJ g ?_; refine Rg.sI g ?_ (by simp only [rgS]; first | with_reducible exact nZ_rng _ | with_reducible exact nB_rng _ | with_reducible exact wr_rng _ | with_reducible exact i32any _ | (first | omega | with_reducible assumption | (unfold rng; omega) | (unfold rng; (repeat' split) <;> omega))); refine Rg.sI g ?_ (by simp only [rgS]; first | with_reducible exact nZ_rng _ | with_reducible exact nB_rng _ | with_reducible exact wr_rng _ | with_reducible exact i32any _ | (first | omega | with_reducible assumption | (unfold rng; omega) | (unfold rng; (repeat' split) <;> omega))); refine Rg.sI g ?_ (by simp only [rgS]; first | with_reducible exact nZ_rng _ | with_reducible exact nB_rng _ | with_reducible exact wr_rng _ | with_reducible exact i32any _ | (first | omega | with_reducible assumption | (unfold rng; omega) | (unfold rng; (repeat' split) <;> omega))); exact rσ30) (by (try simp only [rII, rIJ, rIP, rJJ, rJI, rJP, rPP, rPI, rPJ, g1, g2, g3, g4, g5, g6, g7, g8, Nat.reduceEqDiff, Nat.reduceAdd, false_and, and_false, true_and, and_true, reduceIte, nZ0, nZ1, sσ30_32.1, sσ30_32.2, fun a k => (jσ30 a k).1, fun a k => (jσ30 a k).2, pσ30, obσ30]) <;> first | exact hj2 | (rw [fσ30.2.2.2]; exact hj2)) hja (JobOK.fr (K := []) (S := [30, 33, 34, 35]) (JobOK.fr hjo2 hja fσ30 (by decide)) hja (by repeat (first | exact Fr.rf | assumption | refine Fr.aJ g ?_ (by decide) | refine Fr.aI g ?_ (by decide) | refine Fr.sI g ?_ (by decide) | refine Fr.sJ g ?_ (by decide))) (by decide)) (by (try simp only [rII, rIJ, rIP, rJJ, rJI, rJP, rPP, rPI, rPJ, g1, g2, g3, g4, g5, g6, g7, g8, Nat.reduceEqDiff, Nat.reduceAdd, false_and, and_false, true_and, and_true, reduceIte, nZ0, nZ1, sσ30_32.1, sσ30_32.2, fun a k => (jσ30 a k).1, fun a k => (jσ30 a k).2, pσ30, obσ30]) <;> (first | omega | with_reducible assumption | (unfold rng; omega) | (unfold rng; (repeat' split) <;> omega))) (fun σ35 _ rσ35 fc p5 => ?_)
          have fσ35 : Fr ra jx rm [37, 38, 39, 40, 41, 42, 43, 44, 45, 46, 47, 48, 49, 51, 52, 53, 54, 55, 56, 57, 58, 65, 75, 76, 77, 78, 86, 87, 88, 89, 98] [0, 27, 30, 31, 33, 34, 35, 36, 50, 66, 67, 79, 80, 90, 91, 92, 93, 94, 110, 111, 112] σ σ35 := Fr.tr (by refine Fr.sJ g ?_ (by decide); refine Fr.sI g ?_ (by decide); refine Fr.sI g ?_ (by decide); refine Fr.sI g ?_ (by decide); exact fσ30) (Fr.mor (fc) (by decide) (by decide))
          obtain ⟨q1, q2, q3, q4, q5, q6, q7, q8, q9, q10, q11⟩ := n9
          have lo9 := p5
          have c0 := congrFun (Fr.ob fc hja (by decide)) 0
          rw [← c0] at lo9
          have ly9 := LyI.of lo9.1.2 lo9.2.1
          have h17 : gP σ35 rm 17 = some ja := by rw [fσ35.2.2.2]; exact hj2
          have j9 := JobOK.fr hjo2 hja fσ35 (by decide)
          have fn9 : Fr ra jx rm [37, 38, 39, 51, 52, 53] [30, 33, 34, 35, 36, 50] σ30 σ35 := Fr.tr (K := [37, 38, 39, 51, 52, 53]) (S := [30, 33, 34, 35, 36, 50]) (by repeat (first | exact Fr.rf | assumption | refine Fr.aJ g ?_ (by decide) | refine Fr.aI g ?_ (by decide) | refine Fr.sI g ?_ (by decide) | refine Fr.sJ g ?_ (by decide))) (Fr.mor fc (by decide) (by decide))
          have e9 := HeE.fr q1 fn9 (by decide) (by decide)
          have t9 := ThE.fr q3 fn9 (by decide) (by decide)
          have m9 : MkI ra jx ja σ35 := ⟨fun i hi => absurd hi (by rw [(fn9.1 98 (by decide)).1]; omega), fun i hi => absurd hi (by rw [(fn9.1 98 (by decide)).1]; omega)⟩
          have r9 : RecE ra jx rm ja σ35 := ⟨_, _, RecI.fr q2 fn9 (by decide) (by decide), fun a ha => absurd ha (by by_cases q : 0 ≤ a ∧ a < 4000; (rw [if_pos q]; omega); (rw [if_neg q]; omega))⟩
          have c54 := (fn9.1 54 (by decide)).1
          have c45 := (fn9.1 45 (by decide)).1
          have c33 := (fc.2.1 33 (by decide)).1
          have z34 := rσ35.2.1 34; simp only [rgS] at z34
          have lc9 : LcI ra rm σ35 := LcI.none (by rw [c45]; exact q11)
          (try simp only [rII, rIJ, rIP, rJJ, rJI, rJP, rPP, rPI, rPJ, g1, g2, g3, g4, g5, g6, g7, g8, Nat.reduceEqDiff, Nat.reduceAdd, false_and, and_false, true_and, and_true, reduceIte, nZ0, nZ1, sσ30_32.1, sσ30_32.2, fun a k => (jσ30 a k).1, fun a k => (jσ30 a k).2, pσ30, obσ30] at c33)
          have sσ35_32 := fσ35.2.1 32 (by decide)
          have jσ35 := fσ35.2.2.1
          have pσ35 := fσ35.2.2.2
          have obσ35 := Fr.ob fσ35 hja (by decide)
          try simp only [forall_eq, rII, rIJ, rIP, rJJ, rJI, rJP, rPP, rPI, rPJ, g1, g2, g3, g4, g5, g6, g7, g8, Nat.reduceEqDiff, Nat.reduceAdd, false_and, and_false, true_and, and_true, reduceIte, nZ0, nZ1, sσ35_32.1, sσ35_32.2, fun a k => (jσ35 a k).1, fun a k => (jσ35 a k).2, pσ35, obσ35]
          have q6 := rσ35.2.1 36; simp only [rgS] at q6
          refine hQ _ _ ?_ ?_ ?_
          · exact rσ35
          · exact fσ35
          · first | exact Or.inl ⟨_, rfl⟩ | exact Or.inr ⟨⟨h17, ⟨⟨t9, r9, e9, m9⟩, lc9, fun i hi => by rw [c54, q10 i (by omega)]; exact z34.1⟩, by omega, j9, lo9.2.2, ly9⟩, by rw [(fc.2.1 30 (by decide)).1]; (try simp only [rII, rIJ, rIP, rJJ, rJI, rJP, rPP, rPI, rPJ, g1, g2, g3, g4, g5, g6, g7, g8, Nat.reduceEqDiff, Nat.reduceAdd, false_and, and_false, true_and, and_true, reduceIte, nZ0, nZ1, sσ35_32.1, sσ35_32.2, fun a k => (jσ35 a k).1, fun a k => (jσ35 a k).2, pσ35, obσ35])⟩
        · rename_i hc40
          skip
          unfold w_X16_start_43
          try simp only [forall_eq, rII, rIJ, rIP, rJJ, rJI, rJP, rPP, rPI, rPJ, g1, g2, g3, g4, g5, g6, g7, g8, Nat.reduceEqDiff, Nat.reduceAdd, false_and, and_false, true_and, and_true, reduceIte, nZ0, nZ1]
          unfold w_X16_start_48
          try simp only [forall_eq, rII, rIJ, rIP, rJJ, rJI, rJP, rPP, rPI, rPJ, g1, g2, g3, g4, g5, g6, g7, g8, Nat.reduceEqDiff, Nat.reduceAdd, false_and, and_false, true_and, and_true, reduceIte, nZ0, nZ1]
          try rw [if_neg (by decide)]
          unfold w_X16_start_58
          try simp only [forall_eq, rII, rIJ, rIP, rJJ, rJI, rJP, rPP, rPI, rPJ, g1, g2, g3, g4, g5, g6, g7, g8, Nat.reduceEqDiff, Nat.reduceAdd, false_and, and_false, true_and, and_true, reduceIte, nZ0, nZ1]
          refine hQ _ _ ?_ ?_ ?_
          · refine Rg.sI g ?_ (by simp only [rgS]; first | with_reducible exact nZ_rng _ | with_reducible exact nB_rng _ | with_reducible exact wr_rng _ | with_reducible exact i32any _ | (first | omega | with_reducible assumption | (unfold rng; omega) | (unfold rng; (repeat' split) <;> omega))); exact rσ
          · refine Fr.sI g ?_ (by decide); exact fσ
          · first | exact Or.inl ⟨_, rfl⟩ | exact Or.inr ⟨⟨h17, ⟨⟨t9, r9, e9, m9⟩, lc9, fun i hi => by rw [c54, q10 i (by omega)]; exact z34.1⟩, by omega, j9, lo9.2.2, ly9⟩, by rw [(fc.2.1 30 (by decide)).1]; (try simp only [rII, rIJ, rIP, rJJ, rJI, rJP, rPP, rPI, rPJ, g1, g2, g3, g4, g5, g6, g7, g8, Nat.reduceEqDiff, Nat.reduceAdd, false_and, and_false, true_and, and_true, reduceIte, nZ0, nZ1])⟩
    · rename_i hc12
      skip
      unfold w_X16_start_15
      try simp only [forall_eq, rII, rIJ, rIP, rJJ, rJI, rJP, rPP, rPI, rPJ, g1, g2, g3, g4, g5, g6, g7, g8, Nat.reduceEqDiff, Nat.reduceAdd, false_and, and_false, true_and, and_true, reduceIte, nZ0, nZ1]
      unfold w_X16_start_48
      try simp only [forall_eq, rII, rIJ, rIP, rJJ, rJI, rJP, rPP, rPI, rPJ, g1, g2, g3, g4, g5, g6, g7, g8, Nat.reduceEqDiff, Nat.reduceAdd, false_and, and_false, true_and, and_true, reduceIte, nZ0, nZ1]
      try rw [if_neg (by decide)]
      unfold w_X16_start_58
      try simp only [forall_eq, rII, rIJ, rIP, rJJ, rJI, rJP, rPP, rPI, rPJ, g1, g2, g3, g4, g5, g6, g7, g8, Nat.reduceEqDiff, Nat.reduceAdd, false_and, and_false, true_and, and_true, reduceIte, nZ0, nZ1]
      refine hQ _ _ ?_ ?_ ?_
      · refine Rg.sI g ?_ (by simp only [rgS]; first | with_reducible exact nZ_rng _ | with_reducible exact nB_rng _ | with_reducible exact wr_rng _ | with_reducible exact i32any _ | (first | omega | with_reducible assumption | (unfold rng; omega) | (unfold rng; (repeat' split) <;> omega))); exact rσ
      · refine Fr.sI g ?_ (by decide); exact fσ
      · first | exact Or.inl ⟨_, rfl⟩ | exact Or.inr ⟨⟨h17, ⟨⟨t9, r9, e9, m9⟩, lc9, fun i hi => by rw [c54, q10 i (by omega)]; exact z34.1⟩, by omega, j9, lo9.2.2, ly9⟩, by rw [(fc.2.1 30 (by decide)).1]; (try simp only [rII, rIJ, rIP, rJJ, rJI, rJP, rPP, rPI, rPJ, g1, g2, g3, g4, g5, g6, g7, g8, Nat.reduceEqDiff, Nat.reduceAdd, false_and, and_false, true_and, and_true, reduceIte, nZ0, nZ1])⟩
set_option maxHeartbeats 4000000 in
theorem s_X16_fail_ {ra : Nat → Nat} {jx : Nat → Nat → Nat} {rm : Nat} {ja : Nat} (g : Geo ra jx rm) {σ : Sg} (rσ : Rg ra jx rm σ) (hja : ja = ra 15 ∨ ja = ra 16) (hR : gI σ rm 30 ≠ 0 → gP σ rm 17 = some ja ∧ ((ThE ra rm σ ∧ RecE ra jx rm ja σ ∧ HeE ra rm σ ∧ MkI ra jx ja σ) ∧ LcI ra rm σ ∧ (∀ i : Nat, i < 1100 → gI σ (ra 54) i ≤ gI σ rm 34)) ∧ 1 ≤ gI σ rm 33 ∧ JobOK jx ja σ ∧ 1 ≤ gI σ rm 36 ∧ LyI ra jx rm ja σ) {Q : Sg → Int → Prop} {X : Sg → String → Prop} (hQ : ∀ (σ' : Sg) (r : Int), Rg ra jx rm σ' → Fr ra jx rm [37, 38, 39, 40, 41, 42, 43, 44, 45, 46, 47, 48, 49, 51, 52, 53, 54, 55, 56, 57, 58, 60, 61, 62, 63, 64, 65, 68, 69, 70, 71, 72, 73, 74, 75, 76, 77, 78, 86, 87, 88, 89] [0, 31, 33, 36, 50, 66, 67, 79, 80, 90, 91, 93, 112] σ σ' → ((∃ c, σ' = pI σ rm 0 c) ∨ (gP σ' rm 17 = some ja ∧ ((ThE ra rm σ' ∧ RecE ra jx rm ja σ' ∧ HeE ra rm σ' ∧ MkI ra jx ja σ') ∧ LcI ra rm σ' ∧ (∀ i : Nat, i < 1100 → gI σ' (ra 54) i ≤ gI σ' rm 34)) ∧ 1 ≤ gI σ' rm 33 ∧ JobOK jx ja σ' ∧ 1 ≤ gI σ' rm 36 ∧ LyI ra jx rm ja σ')) → Q σ' r) : wp_X16_fail_ ra jx rm σ Q X := by
  obtain ⟨g1, g2, g3, g4, g5, g6, g7, g8⟩ := id g
  have fσ : Fr ra jx rm [37, 38, 39, 40, 41, 42, 43, 44, 45, 46, 47, 48, 49, 51, 52, 53, 54, 55, 56, 57, 58, 60, 61, 62, 63, 64, 65, 68, 69, 70, 71, 72, 73, 74, 75, 76, 77, 78, 86, 87, 88, 89] [0, 31, 33, 36, 50, 66, 67, 79, 80, 90, 91, 93, 112] σ σ := Fr.rf
  unfold wp_X16_fail_
  unfold w_X16_fail__0
  try simp only [forall_eq, rII, rIJ, rIP, rJJ, rJI, rJP, rPP, rPI, rPJ, g1, g2, g3, g4, g5, g6, g7, g8, Nat.reduceEqDiff, Nat.reduceAdd, false_and, and_false, true_and, and_true, reduceIte, nZ0, nZ1]
  have q1 := rσ.2.1 30; simp only [rgS] at q1
  split
  · rename_i hc5
    skip
    unfold w_X16_fail__15
    try simp only [forall_eq, rII, rIJ, rIP, rJJ, rJI, rJP, rPP, rPI, rPJ, g1, g2, g3, g4, g5, g6, g7, g8, Nat.reduceEqDiff, Nat.reduceAdd, false_and, and_false, true_and, and_true, reduceIte, nZ0, nZ1]
    unfold w_X16_fail__20
    try simp only [forall_eq, rII, rIJ, rIP, rJJ, rJI, rJP, rPP, rPI, rPJ, g1, g2, g3, g4, g5, g6, g7, g8, Nat.reduceEqDiff, Nat.reduceAdd, false_and, and_false, true_and, and_true, reduceIte, nZ0, nZ1]
    try rw [if_neg (by decide)]
    unfold w_X16_fail__30
    try simp only [forall_eq, rII, rIJ, rIP, rJJ, rJI, rJP, rPP, rPI, rPJ, g1, g2, g3, g4, g5, g6, g7, g8, Nat.reduceEqDiff, Nat.reduceAdd, false_and, and_false, true_and, and_true, reduceIte, nZ0, nZ1]
    unfold w_X16_fail__42
    try simp only [forall_eq, rII, rIJ, rIP, rJJ, rJI, rJP, rPP, rPI, rPJ, g1, g2, g3, g4, g5, g6, g7, g8, Nat.reduceEqDiff, Nat.reduceAdd, false_and, and_false, true_and, and_true, reduceIte, nZ0, nZ1]
    refine hQ _ _ ?_ ?_ ?_
    · refine Rg.sI g ?_ (by simp only [rgS]; first | with_reducible exact nZ_rng _ | with_reducible exact nB_rng _ | with_reducible exact wr_rng _ | with_reducible exact i32any _ | (first | omega | with_reducible assumption | (unfold rng; omega) | (unfold rng; (repeat' split) <;> omega))); exact rσ
    · refine Fr.sI g ?_ (by decide); exact fσ
    · first | exact Or.inl ⟨_, rfl⟩ | exact Or.inr p9
  · rename_i hc5
    skip
    unfold w_X16_fail__8
    try simp only [forall_eq, rII, rIJ, rIP, rJJ, rJI, rJP, rPP, rPI, rPJ, g1, g2, g3, g4, g5, g6, g7, g8, Nat.reduceEqDiff, Nat.reduceAdd, false_and, and_false, true_and, and_true, reduceIte, nZ0, nZ1]
    have q2 := rσ.2.1 32; simp only [rgS] at q2
    split
    · rename_i hc12
      skip
      unfold w_X16_fail__19
      try simp only [forall_eq, rII, rIJ, rIP, rJJ, rJI, rJP, rPP, rPI, rPJ, g1, g2, g3, g4, g5, g6, g7, g8, Nat.reduceEqDiff, Nat.reduceAdd, false_and, and_false, true_and, and_true, reduceIte, nZ0, nZ1]
      unfold w_X16_fail__20
      try simp only [forall_eq, rII, rIJ, rIP, rJJ, rJI, rJP, rPP, rPI, rPJ, g1, g2, g3, g4, g5, g6, g7, g8, Nat.reduceEqDiff, Nat.reduceAdd, false_and, and_false, true_and, and_true, reduceIte, nZ0, nZ1]
      try rw [if_pos (by decide)]
      unfold w_X16_fail__34
      try simp only [forall_eq, rII, rIJ, rIP, rJJ, rJI, rJP, rPP, rPI, rPJ, g1, g2, g3, g4, g5, g6, g7, g8, Nat.reduceEqDiff, Nat.reduceAdd, false_and, and_false, true_and, and_true, reduceIte, nZ0, nZ1]
      have hr9 := hR (by assumption)
      have h33 := rσ.2.1 33; simp only [rgS] at h33
      have h33b := hr9.2.2.1
      have q3 := rσ.2.1 33; simp only [rgS] at q3
      refine s_X16_beginAgain g (by refine Rg.sI g ?_ (by simp only [rgS]; first | with_reducible exact nZ_rng _ | with_reducible exact nB_rng _ | with_reducible exact wr_rng _ | with_reducible exact i32any _ | (first | omega | with_reducible assumption | (unfold rng; omega) | (unfold rng; (repeat' split) <;> omega))); exact rσ) (by (try simp only [rII, rIJ, rIP, rJJ, rJI, rJP, rPP, rPI, rPJ, g1, g2, g3, g4, g5, g6, g7, g8, Nat.reduceEqDiff, Nat.reduceAdd, false_and, and_false, true_and, and_true, reduceIte, nZ0, nZ1]) <;> exact hr9.1) hja (JobOK.fr (K := []) (S := [0]) hr9.2.2.2.1 hja (by repeat (first | exact Fr.rf | assumption | refine Fr.aJ g ?_ (by decide) | refine Fr.aI g ?_ (by decide) | refine Fr.sI g ?_ (by decide) | refine Fr.sJ g ?_ (by decide))) (by decide)) (HeE.fr (jx := jx) (K := []) (S := [0]) hr9.2.1.1.2.2.1 (by repeat (first | exact Fr.rf | assumption | refine Fr.aJ g ?_ (by decide) | refine Fr.aI g ?_ (by decide) | refine Fr.sI g ?_ (by decide) | refine Fr.sJ g ?_ (by decide))) (by decide) (by decide)) (MkI.fr (rm := rm) (K := []) (S := [0]) hr9.2.1.1.2.2.2 (by repeat (first | exact Fr.rf | assumption | refine Fr.aJ g ?_ (by decide) | refine Fr.aI g ?_ (by decide) | refine Fr.sI g ?_ (by decide) | refine Fr.sJ g ?_ (by decide))) (by decide)) (by (try simp only [rII, rIJ, rIP, rJJ, rJI, rJP, rPP, rPI, rPJ, g1, g2, g3, g4, g5, g6, g7, g8, Nat.reduceEqDiff, Nat.reduceAdd, false_and, and_false, true_and, and_true, reduceIte, nZ0, nZ1]) <;> (first | omega | with_reducible assumption | (unfold rng; omega) | (unfold rng; (repeat' split) <;> omega))) (fun σ9 r10 rσ9 fc p4 => ?_)
      have fσ9 : Fr ra jx rm [37, 38, 39, 40, 41, 42, 43, 44, 45, 46, 47, 48, 49, 51, 52, 53, 54, 55, 56, 57, 58, 60, 61, 62, 63, 64, 65, 68, 69, 70, 71, 72, 73, 74, 75, 76, 77, 78, 86, 87, 88, 89] [0, 31, 33, 36, 50, 66, 67, 79, 80, 90, 91, 93, 112] σ σ9 := Fr.tr (by refine Fr.sI g ?_ (by decide); exact fσ) (Fr.mor (fc) (by decide) (by decide))
      have p9 := p4
      have sσ9_30 := fσ9.2.1 30 (by decide)
      have sσ9_32 := fσ9.2.1 32 (by decide)
      have jσ9 := fσ9.2.2.1
      try simp only [forall_eq, rII, rIJ, rIP, rJJ, rJI, rJP, rPP, rPI, rPJ, g1, g2, g3, g4, g5, g6, g7, g8, Nat.reduceEqDiff, Nat.reduceAdd, false_and, and_false, true_and, and_true, reduceIte, nZ0, nZ1, sσ9_30.1, sσ9_30.2, sσ9_32.1, sσ9_32.2, fun a k => (jσ9 a k).1, fun a k => (jσ9 a k).2]
      unfold w_X16_fail__42
      try simp only [forall_eq, rII, rIJ, rIP, rJJ, rJI, rJP, rPP, rPI, rPJ, g1, g2, g3, g4, g5, g6, g7, g8, Nat.reduceEqDiff, Nat.reduceAdd, false_and, and_false, true_and, and_true, reduceIte, nZ0, nZ1, sσ9_30.1, sσ9_30.2, sσ9_32.1, sσ9_32.2, fun a k => (jσ9 a k).1, fun a k => (jσ9 a k).2]
      refine hQ _ _ ?_ ?_ ?_
      · exact rσ9
      · exact fσ9
      · first | exact Or.inl ⟨_, rfl⟩ | exact Or.inr p9
    · rename_i hc12
      skip
      unfold w_X16_fail__15
      try simp only [forall_eq, rII, rIJ, rIP, rJJ, rJI, rJP, rPP, rPI, rPJ, g1, g2, g3, g4, g5, g6, g7, g8, Nat.reduceEqDiff, Nat.reduceAdd, false_and, and_false, true_and, and_true, reduceIte, nZ0, nZ1]
      unfold w_X16_fail__20
      try simp only [forall_eq, rII, rIJ, rIP, rJJ, rJI, rJP, rPP, rPI, rPJ, g1, g2, g3, g4, g5, g6, g7, g8, Nat.reduceEqDiff, Nat.reduceAdd, false_and, and_false, true_and, and_true, reduceIte, nZ0, nZ1]
      try rw [if_neg (by decide)]
      unfold w_X16_fail__30
      try simp only [forall_eq, rII, rIJ, rIP, rJJ, rJI, rJP, rPP, rPI, rPJ, g1, g2, g3, g4, g5, g6, g7, g8, Nat.reduceEqDiff, Nat.reduceAdd, false_and, and_false, true_and, and_true, reduceIte, nZ0, nZ1]
      unfold w_X16_fail__42
      try simp only [forall_eq, rII, rIJ, rIP, rJJ, rJI, rJP, rPP, rPI, rPJ, g1, g2, g3, g4, g5, g6, g7, g8, Nat.reduceEqDiff, Nat.reduceAdd, false_and, and_false, true_and, and_true, reduceIte, nZ0, nZ1]
      refine hQ _ _ ?_ ?_ ?_
      · refine Rg.sI g ?_ (by simp only [rgS]; first | with_reducible exact nZ_rng _ | with_reducible exact nB_rng _ | with_reducible exact wr_rng _ | with_reducible exact i32any _ | (first | omega | with_reducible assumption | (unfold rng; omega) | (unfold rng; (repeat' split) <;> omega))); exact rσ
      · refine Fr.sI g ?_ (by decide); exact fσ
      · first | exact Or.inl ⟨_, rfl⟩ | exact Or.inr p9
set_option maxHeartbeats 4000000 in
theorem s_X16_rescale {ra : Nat → Nat} {jx : Nat → Nat → Nat} {rm : Nat} {ja : Nat} (g : Geo ra jx rm) {σ : Sg} {v1 : Int} (rσ : Rg ra jx rm σ) (hja : ja = ra 15 ∨ ja = ra 16) (hR : gI σ rm 30 ≠ 0 → gP σ rm 17 = some ja ∧ ((ThE ra rm σ ∧ RecE ra jx rm ja σ ∧ HeE ra rm σ ∧ MkI ra jx ja σ) ∧ LcI ra rm σ ∧ (∀ i : Nat, i < 1100 → gI σ (ra 54) i ≤ gI σ rm 34)) ∧ 1 ≤ gI σ rm 33 ∧ JobOK jx ja σ ∧ 1 ≤ gI σ rm 36 ∧ LyI ra jx rm ja σ) (b1 : -2147483648 ≤ v1 ∧ v1 ≤ 2147483647) {Q : Sg → Int → Prop} {X : Sg → String → Prop} (hQ : ∀ (σ' : Sg) (r : Int), Rg ra jx rm σ' → Fr ra jx rm [37, 38, 39, 40, 41, 42, 43, 44, 45, 46, 47, 48, 49, 51, 52, 53, 54, 55, 56, 57, 58, 60, 61, 62, 63, 64, 65, 68, 69, 70, 71, 72, 73, 74, 75, 76, 77, 78, 86, 87, 88, 89] [0, 31, 33, 36, 50, 66, 67, 79, 80, 90, 91, 93, 112] σ σ' → ((∃ c, σ' = pI σ rm 0 c) ∨ (gP σ' rm 17 = some ja ∧ ((ThE ra rm σ' ∧ RecE ra jx rm ja σ' ∧ HeE ra rm σ' ∧ MkI ra jx ja σ') ∧ LcI ra rm σ' ∧ (∀ i : Nat, i < 1100 → gI σ' (ra 54) i ≤ gI σ' rm 34)) ∧ 1 ≤ gI σ' rm 33 ∧ JobOK jx ja σ' ∧ 1 ≤ gI σ' rm 36 ∧ LyI ra jx rm ja σ')) → Q σ' r) : wp_X16_rescale ra jx rm v1 σ Q X := by
  obtain ⟨g1, g2, g3, g4, g5, g6, g7, g8⟩ := id g
  have fσ : Fr ra jx rm [37, 38, 39, 40, 41, 42, 43, 44, 45, 46, 47, 48, 49, 51, 52, 53, 54, 55, 56, 57, 58, 60, 61, 62, 63, 64, 65, 68, 69, 70, 71, 72, 73, 74, 75, 76, 77, 78, 86, 87, 88, 89] [0, 31, 33, 36, 50, 66, 67, 79, 80, 90, 91, 93, 112] σ σ := Fr.rf
  unfold wp_X16_rescale
  unfold w_X16_rescale_0
  try simp only [forall_eq, rII, rIJ, rIP, rJJ, rJI, rJP, rPP, rPI, rPJ, g1, g2, g3, g4, g5, g6, g7, g8, Nat.reduceEqDiff, Nat.reduceAdd, false_and, and_false, true_and, and_true, reduceIte, nZ0, nZ1]
  have q1 := rσ.2.1 30; simp only [rgS] at q1
  split
  · rename_i hc5
    skip
    unfold w_X16_rescale_15
    try simp only [forall_eq, rII, rIJ, rIP, rJJ, rJI, rJP, rPP, rPI, rPJ, g1, g2, g3, g4, g5, g6, g7, g8, Nat.reduceEqDiff, Nat.reduceAdd, false_and, and_false, true_and, and_true, reduceIte, nZ0, nZ1]
    unfold w_X16_rescale_36
    try simp only [forall_eq, rII, rIJ, rIP, rJJ, rJI, rJP, rPP, rPI, rPJ, g1, g2, g3, g4, g5, g6, g7, g8, Nat.reduceEqDiff, Nat.reduceAdd, false_and, and_false, true_and, and_true, reduceIte, nZ0, nZ1]
    try rw [if_neg (by decide)]
    unfold w_X16_rescale_46
    try simp only [forall_eq, rII, rIJ, rIP, rJJ, rJI, rJP, rPP, rPI, rPJ, g1, g2, g3, g4, g5, g6, g7, g8, Nat.reduceEqDiff, Nat.reduceAdd, false_and, and_false, true_and, and_true, reduceIte, nZ0, nZ1]
    unfold w_X16_rescale_55
    try simp only [forall_eq, rII, rIJ, rIP, rJJ, rJI, rJP, rPP, rPI, rPJ, g1, g2, g3, g4, g5, g6, g7, g8, Nat.reduceEqDiff, Nat.reduceAdd, false_and, and_false, true_and, and_true, reduceIte, nZ0, nZ1]
    refine hQ _ _ ?_ ?_ ?_
    · refine Rg.sI g ?_ (by simp only [rgS]; first | with_reducible exact nZ_rng _ | with_reducible exact nB_rng _ | with_reducible exact wr_rng _ | with_reducible exact i32any _ | (first | omega | with_reducible assumption | (unfold rng; omega) | (unfold rng; (repeat' split) <;> omega))); exact rσ
    · refine Fr.sI g ?_ (by decide); exact fσ
    · first | exact Or.inl ⟨_, rfl⟩ | exact Or.inr p9
  · rename_i hc5
    skip
    unfold w_X16_rescale_8
    try simp only [forall_eq, rII, rIJ, rIP, rJJ, rJI, rJP, rPP, rPI, rPJ, g1, g2, g3, g4, g5, g6, g7, g8, Nat.reduceEqDiff, Nat.reduceAdd, false_and, and_false, true_and, and_true, reduceIte, nZ0, nZ1]
    have q2 := rσ.2.1 32; simp only [rgS] at q2
    split
    · rename_i hc12
      skip
      unfold w_X16_rescale_19
      try simp only [forall_eq, rII, rIJ, rIP, rJJ, rJI, rJP, rPP, rPI, rPJ, g1, g2, g3, g4, g5, g6, g7, g8, Nat.reduceEqDiff, Nat.reduceAdd, false_and, and_false, true_and, and_true, reduceIte, nZ0, nZ1]
      refine s_X16_within g rσ (fun r13 p3 => ?_)
      obtain ⟨p3, p3b⟩ := p3
      have p3w : r13 = 1 → 1 ≤ v1 ∧ v1 ≤ 4 := fun e => win (by (first | omega | with_reducible assumption | (unfold rng; omega) | (unfold rng; (repeat' split) <;> omega))) (p3b e)
      try simp only [forall_eq, rII, rIJ, rIP, rJJ, rJI, rJP, rPP, rPI, rPJ, g1, g2, g3, g4, g5, g6, g7, g8, Nat.reduceEqDiff, Nat.reduceAdd, false_and, and_false, true_and, and_true, reduceIte, nZ0, nZ1]
      split
      · rename_i hc28
        skip
        unfold w_X16_rescale_35
        try simp only [forall_eq, rII, rIJ, rIP, rJJ, rJI, rJP, rPP, rPI, rPJ, g1, g2, g3, g4, g5, g6, g7, g8, Nat.reduceEqDiff, Nat.reduceAdd, false_and, and_false, true_and, and_true, reduceIte, nZ0, nZ1]
        unfold w_X16_rescale_36
        try simp only [forall_eq, rII, rIJ, rIP, rJJ, rJI, rJP, rPP, rPI, rPJ, g1, g2, g3, g4, g5, g6, g7, g8, Nat.reduceEqDiff, Nat.reduceAdd, false_and, and_false, true_and, and_true, reduceIte, nZ0, nZ1]
        try rw [if_pos (by decide)]
        unfold w_X16_rescale_50
        try simp only [forall_eq, rII, rIJ, rIP, rJJ, rJI, rJP, rPP, rPI, rPJ, g1, g2, g3, g4, g5, g6, g7, g8, Nat.reduceEqDiff, Nat.reduceAdd, false_and, and_false, true_and, and_true, reduceIte, nZ0, nZ1]
        have hr9 := hR (by assumption)
        have h33 := rσ.2.1 33; simp only [rgS] at h33
        have h33b := hr9.2.2.1
        refine s_X16_beginAgain g (by refine Rg.sI g ?_ (by simp only [rgS]; first | with_reducible exact nZ_rng _ | with_reducible exact nB_rng _ | with_reducible exact wr_rng _ | with_reducible exact i32any _ | (first | omega | with_reducible assumption | (unfold rng; omega) | (unfold rng; (repeat' split) <;> omega))); exact rσ) (by (try simp only [rII, rIJ, rIP, rJJ, rJI, rJP, rPP, rPI, rPJ, g1, g2, g3, g4, g5, g6, g7, g8, Nat.reduceEqDiff, Nat.reduceAdd, false_and, and_false, true_and, and_true, reduceIte, nZ0, nZ1]) <;> exact hr9.1) hja (JobOK.fr (K := []) (S := [0]) hr9.2.2.2.1 hja (by repeat (first | exact Fr.rf | assumption | refine Fr.aJ g ?_ (by decide) | refine Fr.aI g ?_ (by decide) | refine Fr.sI g ?_ (by decide) | refine Fr.sJ g ?_ (by decide))) (by decide)) (HeE.fr (jx := jx) (K := []) (S := [0]) hr9.2.1.1.2.2.1 (by repeat (first | exact Fr.rf | assumption | refine Fr.aJ g ?_ (by decide) | refine Fr.aI g ?_ (by decide) | refine Fr.sI g ?_ (by decide) | refine Fr.sJ g ?_ (by decide))) (by decide) (by decide)) (MkI.fr (rm := rm) (K := []) (S := [0]) hr9.2.1.1.2.2.2 (by repeat (first | exact Fr.rf | assumption | refine Fr.aJ g ?_ (by decide) | refine Fr.aI g ?_ (by decide) | refine Fr.sI g ?_ (by decide) | refine Fr.sJ g ?_ (by decide))) (by decide)) (by (try simp only [rII, rIJ, rIP, rJJ, rJI, rJP, rPP, rPI, rPJ, g1, g2, g3, g4, g5, g6, g7, g8, Nat.reduceEqDiff, Nat.reduceAdd, false_and, and_false, true_and, and_true, reduceIte, nZ0, nZ1]) <;> (first | omega | with_reducible assumption | (unfold rng; omega) | (unfold rng; (repeat' split) <;> omega))) (fun σ15 r16 rσ15 fc p4 => ?_)
        have fσ15 : Fr ra jx rm [37, 38, 39, 40, 41, 42, 43, 44, 45, 46, 47, 48, 49, 51, 52, 53, 54, 55, 56, 57, 58, 60, 61, 62, 63, 64, 65, 68, 69, 70, 71, 72, 73, 74, 75, 76, 77, 78, 86, 87, 88, 89] [0, 31, 33, 36, 50, 66, 67, 79, 80, 90, 91, 93, 112] σ σ15 := Fr.tr (by refine Fr.sI g ?_ (by decide); exact fσ) (Fr.mor (fc) (by decide) (by decide))
        have p9 := p4
        have sσ15_30 := fσ15.2.1 30 (by decide)
        have sσ15_32 := fσ15.2.1 32 (by decide)
        have jσ15 := fσ15.2.2.1
        try simp only [forall_eq, rII, rIJ, rIP, rJJ, rJI, rJP, rPP, rPI, rPJ, g1, g2, g3, g4, g5, g6, g7, g8, Nat.reduceEqDiff, Nat.reduceAdd, false_and, and_false, true_and, and_true, reduceIte, nZ0, nZ1, sσ15_30.1, sσ15_30.2, sσ15_32.1, sσ15_32.2, fun a k => (jσ15 a k).1, fun a k => (jσ15 a k).2]
        unfold w_X16_rescale_55
        try simp only [forall_eq, rII, rIJ, rIP, rJJ, rJI, rJP, rPP, rPI, rPJ, g1, g2, g3, g4, g5, g6, g7, g8, Nat.reduceEqDiff, Nat.reduceAdd, false_and, and_false, true_and, and_true, reduceIte, nZ0, nZ1, sσ15_30.1, sσ15_30.2, sσ15_32.1, sσ15_32.2, fun a k => (jσ15 a k).1, fun a k => (jσ15 a k).2]
        refine hQ _ _ ?_ ?_ ?_
        · exact rσ15
        · exact fσ15
        · first | exact Or.inl ⟨_, rfl⟩ | exact Or.inr p9
      · rename_i hc28
        skip
        unfold w_X16_rescale_31
        try simp only [forall_eq, rII, rIJ, rIP, rJJ, rJI, rJP, rPP, rPI, rPJ, g1, g2, g3, g4, g5, g6, g7, g8, Nat.reduceEqDiff, Nat.reduceAdd, false_and, and_false, true_and, and_true, reduceIte, nZ0, nZ1]
        unfold w_X16_rescale_36
        try simp only [forall_eq, rII, rIJ, rIP, rJJ, rJI, rJP, rPP, rPI, rPJ, g1, g2, g3, g4, g5, g6, g7, g8, Nat.reduceEqDiff, Nat.reduceAdd, false_and, and_false, true_and, and_true, reduceIte, nZ0, nZ1]
        try rw [if_neg (by decide)]
        unfold w_X16_rescale_46
        try simp only [forall_eq, rII, rIJ, rIP, rJJ, rJI, rJP, rPP, rPI, rPJ, g1, g2, g3, g4, g5, g6, g7, g8, Nat.reduceEqDiff, Nat.reduceAdd, false_and, and_false, true_and, and_true, reduceIte, nZ0, nZ1]
        unfold w_X16_rescale_55
        try simp only [forall_eq, rII, rIJ, rIP, rJJ, rJI, rJP, rPP, rPI, rPJ, g1, g2, g3, g4, g5, g6, g7, g8, Nat.reduceEqDiff, Nat.reduceAdd, false_and, and_false, true_and, and_true, reduceIte, nZ0, nZ1]
        refine hQ _ _ ?_ ?_ ?_
        · refine Rg.sI g ?_ (by simp only [rgS]; first | with_reducible exact nZ_rng _ | with_reducible exact nB_rng _ | with_reducible exact wr_rng _ | with_reducible exact i32any _ | (first | omega | with_reducible assumption | (unfold rng; omega) | (unfold rng; (repeat' split) <;> omega))); exact rσ
        · refine Fr.sI g ?_ (by decide); exact fσ
        · first | exact Or.inl ⟨_, rfl⟩ | exact Or.inr p9
    · rename_i hc12
      skip
      unfold w_X16_rescale_15
      try simp only [forall_eq, rII, rIJ, rIP, rJJ, rJI, rJP, rPP, rPI, rPJ, g1, g2, g3, g4, g5, g6, g7, g8, Nat.reduceEqDiff, Nat.reduceAdd, false_and, and_false, true_and, and_true, reduceIte, nZ0, nZ1]
      unfold w_X16_rescale_36
      try simp only [forall_eq, rII, rIJ, rIP, rJJ, rJI, rJP, rPP, rPI, rPJ, g1, g2, g3, g4, g5, g6, g7, g8, Nat.reduceEqDiff, Nat.reduceAdd, false_and, and_false, true_and, and_true, reduceIte, nZ0, nZ1]
      try rw [if_neg (by decide)]
      unfold w_X16_rescale_46
      try simp only [forall_eq, rII, rIJ, rIP, rJJ, rJI, rJP, rPP, rPI, rPJ, g1, g2, g3, g4, g5, g6, g7, g8, Nat.reduceEqDiff, Nat.reduceAdd, false_and, and_false, true_and, and_true, reduceIte, nZ0, nZ1]
      unfold w_X16_rescale_55
      try simp only [forall_eq, rII, rIJ, rIP, rJJ, rJI, rJP, rPP, rPI, rPJ, g1, g2, g3, g4, g5, g6, g7, g8, Nat.reduceEqDiff, Nat.reduceAdd, false_and, and_false, true_and, and_true, reduceIte, nZ0, nZ1]
      refine hQ _ _ ?_ ?_ ?_
      · refine Rg.sI g ?_ (by simp only [rgS]; first | with_reducible exact nZ_rng _ | with_reducible exact nB_rng _ | with_reducible exact wr_rng _ | with_reducible exact i32any _ | (first | omega | with_reducible assumption | (unfold rng; omega) | (unfold rng; (repeat' split) <;> omega))); exact rσ
      · refine Fr.sI g ?_ (by decide); exact fσ
      · first | exact Or.inl ⟨_, rfl⟩ | exact Or.inr p9
set_option maxHeartbeats 4000000 in
theorem s_X16_reopen {ra : Nat → Nat} {jx : Nat → Nat → Nat} {rm : Nat} {ja : Nat} (g : Geo ra jx rm) {σ : Sg} (rσ : Rg ra jx rm σ) (hja : ja = ra 15 ∨ ja = ra 16) (hR : gI σ rm 30 ≠ 0 → gP σ rm 17 = some ja ∧ ((ThE ra rm σ ∧ RecE ra jx rm ja σ ∧ HeE ra rm σ ∧ MkI ra jx ja σ) ∧ LcI ra rm σ ∧ (∀ i : Nat, i < 1100 → gI σ (ra 54) i ≤ gI σ rm 34)) ∧ 1 ≤ gI σ rm 33 ∧ JobOK jx ja σ ∧ 1 ≤ gI σ rm 36 ∧ LyI ra jx rm ja σ) (hD : gI σ rm 32 ≠ 0 → gI σ rm 30 ≠ 0) {Q : Sg → Int → Prop} {X : Sg → String → Prop} (hQ : ∀ (σ' : Sg) (r : Int), Rg ra jx rm σ' → Fr ra jx rm [37, 38, 39, 40, 41, 42, 43, 44, 45, 46, 47, 48, 49, 51, 52, 53, 54, 55, 56, 57, 58, 60, 61, 62, 63, 64, 65, 68, 69, 70, 71, 72, 73, 74, 75, 76, 77, 78, 86, 87, 88, 89] [0, 31, 32, 33, 36, 50, 66, 67, 79, 80, 90, 91, 93, 96, 112] σ σ' → ((∃ c, σ' = pI σ rm 0 c) ∨ (gP σ' rm 17 = some ja ∧ ((ThE ra rm σ' ∧ RecE ra jx rm ja σ' ∧ HeE ra rm σ' ∧ MkI ra jx ja σ') ∧ LcI ra rm σ' ∧ (∀ i : Nat, i < 1100 → gI σ' (ra 54) i ≤ gI σ' rm 34)) ∧ 1 ≤ gI σ' rm 33 ∧ JobOK jx ja σ' ∧ 1 ≤ gI σ' rm 36 ∧ LyI ra jx rm ja σ')) → Q σ' r) : wp_X16_reopen ra jx rm σ Q X := by
  obtain ⟨g1, g2, g3, g4, g5, g6, g7, g8⟩ := id g
  have fσ : Fr ra jx rm [37, 38, 39, 40, 41, 42, 43, 44, 45, 46, 47, 48, 49, 51, 52, 53, 54, 55, 56, 57, 58, 60, 61, 62, 63, 64, 65, 68, 69, 70, 71, 72, 73, 74, 75, 76, 77, 78, 86, 87, 88, 89] [0, 31, 32, 33, 36, 50, 66, 67, 79, 80, 90, 91, 93, 96, 112] σ σ := Fr.rf
  unfold wp_X16_reopen
  unfold w_X16_reopen_0
  try simp only [forall_eq, rII, rIJ, rIP, rJJ, rJI, rJP, rPP, rPI, rPJ, g1, g2, g3, g4, g5, g6, g7, g8, Nat.reduceEqDiff, Nat.reduceAdd, false_and, and_false, true_and, and_true, reduceIte, nZ0, nZ1]
  have q1 := rσ.2.1 32; simp only [rgS] at q1
  split
  · rename_i hc5
    skip
    unfold w_X16_reopen_12
    try simp only [forall_eq, rII, rIJ, rIP, rJJ, rJI, rJP, rPP, rPI, rPJ, g1, g2, g3, g4, g5, g6, g7, g8, Nat.reduceEqDiff, Nat.reduceAdd, false_and, and_false, true_and, and_true, reduceIte, nZ0, nZ1]
    unfold w_X16_reopen_13
    try simp only [forall_eq, rII, rIJ, rIP, rJJ, rJI, rJP, rPP, rPI, rPJ, g1, g2, g3, g4, g5, g6, g7, g8, Nat.reduceEqDiff, Nat.reduceAdd, false_and, and_false, true_and, and_true, reduceIte, nZ0, nZ1]
    try rw [if_pos (by decide)]
    unfold w_X16_reopen_25
    try simp only [forall_eq, rII, rIJ, rIP, rJJ, rJI, rJP, rPP, rPI, rPJ, g1, g2, g3, g4, g5, g6, g7, g8, Nat.reduceEqDiff, Nat.reduceAdd, false_and, and_false, true_and, and_true, reduceIte, nZ0, nZ1]
    have hr9 := hR (hD (by assumption))
    have h33 := rσ.2.1 33; simp only [rgS] at h33
    have h33b := hr9.2.2.1
    have q2 := rσ.2.1 33; simp only [rgS] at q2
    refine s_X16_beginAgain g (by refine Rg.sI g ?_ (by simp only [rgS]; first | with_reducible exact nZ_rng _ | with_reducible exact nB_rng _ | with_reducible exact wr_rng _ | with_reducible exact i32any _ | (first | omega | with_reducible assumption | (unfold rng; omega) | (unfold rng; (repeat' split) <;> omega))); refine Rg.sI g ?_ (by simp only [rgS]; first | with_reducible exact nZ_rng _ | with_reducible exact nB_rng _ | with_reducible exact wr_rng _ | with_reducible exact i32any _ | (first | omega | with_reducible assumption | (unfold rng; omega) | (unfold rng; (repeat' split) <;> omega))); refine Rg.sI g ?_ (by simp only [rgS]; first | with_reducible exact nZ_rng _ | with_reducible exact nB_rng _ | with_reducible exact wr_rng _ | with_reducible exact i32any _ | (first | omega | with_reducible assumption | (unfold rng; omega) | (unfold rng; (repeat' split) <;> omega))); exact rσ) (by (try simp only [rII, rIJ, rIP, rJJ, rJI, rJP, rPP, rPI, rPJ, g1, g2, g3, g4, g5, g6, g7, g8, Nat.reduceEqDiff, Nat.reduceAdd, false_and, and_false, true_and, and_true, reduceIte, nZ0, nZ1]) <;> exact hr9.1) hja (JobOK.fr (K := []) (S := [0, 32, 96]) hr9.2.2.2.1 hja (by repeat (first | exact Fr.rf | assumption | refine Fr.aJ g ?_ (by decide) | refine Fr.aI g ?_ (by decide) | refine Fr.sI g ?_ (by decide) | refine Fr.sJ g ?_ (by decide))) (by decide)) (HeE.fr (jx := jx) (K := []) (S := [0, 32, 96]) hr9.2.1.1.2.2.1 (by repeat (first | exact Fr.rf | assumption | refine Fr.aJ g ?_ (by decide) | refine Fr.aI g ?_ (by decide) | refine Fr.sI g ?_ (by decide) | refine Fr.sJ g ?_ (by decide))) (by decide) (by decide)) (MkI.fr (rm := rm) (K := []) (S := [0, 32, 96]) hr9.2.1.1.2.2.2 (by repeat (first | exact Fr.rf | assumption | refine Fr.aJ g ?_ (by decide) | refine Fr.aI g ?_ (by decide) | refine Fr.sI g ?_ (by decide) | refine Fr.sJ g ?_ (by decide))) (by decide)) (by (try simp only [rII, rIJ, rIP, rJJ, rJI, rJP, rPP, rPI, rPJ, g1, g2, g3, g4, g5, g6, g7, g8, Nat.reduceEqDiff, Nat.reduceAdd, false_and, and_false, true_and, and_true, reduceIte, nZ0, nZ1]) <;> (first | omega | with_reducible assumption | (unfold rng; omega) | (unfold rng; (repeat' split) <;> omega))) (fun σ14 r15 rσ14 fc p3 => ?_)
    have fσ14 : Fr ra jx rm [37, 38, 39, 40, 41, 42, 43, 44, 45, 46, 47, 48, 49, 51, 52, 53, 54, 55, 56, 57, 58, 60, 61, 62, 63, 64, 65, 68, 69, 70, 71, 72, 73, 74, 75, 76, 77, 78, 86, 87, 88, 89] [0, 31, 32, 33, 36, 50, 66, 67, 79, 80, 90, 91, 93, 96, 112] σ σ14 := Fr.tr (by refine Fr.sI g ?_ (by decide); refine Fr.sI g ?_ (by decide); refine Fr.sI g ?_ (by decide); exact fσ) (Fr.mor (fc) (by decide) (by decide))
    have p9 := p3
    have jσ14 := fσ14.2.2.1
    try simp only [forall_eq, rII, rIJ, rIP, rJJ, rJI, rJP, rPP, rPI, rPJ, g1, g2, g3, g4, g5, g6, g7, g8, Nat.reduceEqDiff, Nat.reduceAdd, false_and, and_false, true_and, and_true, reduceIte, nZ0, nZ1, fun a k => (jσ14 a k).1, fun a k => (jσ14 a k).2]
    refine hQ _ _ ?_ ?_ ?_
    · exact rσ14
    · exact fσ14
    · first | exact Or.inl ⟨_, rfl⟩ | exact Or.inr p9
  · rename_i hc5
    skip
    unfold w_X16_reopen_8
    try simp only [forall_eq, rII, rIJ, rIP, rJJ, rJI, rJP, rPP, rPI, rPJ, g1, g2, g3, g4, g5, g6, g7, g8, Nat.reduceEqDiff, Nat.reduceAdd, false_and, and_false, true_and, and_true, reduceIte, nZ0, nZ1]
    unfold w_X16_reopen_13
    try simp only [forall_eq, rII, rIJ, rIP, rJJ, rJI, rJP, rPP, rPI, rPJ, g1, g2, g3, g4, g5, g6, g7, g8, Nat.reduceEqDiff, Nat.reduceAdd, false_and, and_false, true_and, and_true, reduceIte, nZ0, nZ1]
    try rw [if_neg (by decide)]
    unfold w_X16_reopen_23
    try simp only [forall_eq, rII, rIJ, rIP, rJJ, rJI, rJP, rPP, rPI, rPJ, g1, g2, g3, g4, g5, g6, g7, g8, Nat.reduceEqDiff, Nat.reduceAdd, false_and, and_false, true_and, and_true, reduceIte, nZ0, nZ1]
    refine hQ _ _ ?_ ?_ ?_
    · refine Rg.sI g ?_ (by simp only [rgS]; first | with_reducible exact nZ_rng _ | with_reducible exact nB_rng _ | with_reducible exact wr_rng _ | with_reducible exact i32any _ | (first | omega | with_reducible assumption | (unfold rng; omega) | (unfold rng; (repeat' split) <;> omega))); exact rσ
    · refine Fr.sI g ?_ (by decide); exact fσ
    · first | exact Or.inl ⟨_, rfl⟩ | exact Or.inr p9

set_option maxHeartbeats 2000000 in
theorem s2_X16_pass {ra : Nat → Nat} {jx : Nat → Nat → Nat} {rm : Nat} {b3 : Nat} {n3 : Nat} {b : Int} {A : Int} (g : Geo ra jx rm) {σ : Sg} {v1 : Int64} {v3 : Option Nat} {v4 : Int} (rσ : Rg ra jx rm σ) (ha3 : v3 = some b3) (hr3 : rAr ra jx b3 101 n3) (h4 : 0 ≤ v4 ∧ v4 + 8 ≤ (n3 : Int)) (hn3 : (n3 : Int) ≤ 102416) (hpt : PtI ra rm σ b A) (hA : 1000000 ≤ A ∧ A ≤ 2000000) (hv : 0 ≤ v1.toInt ∧ v1.toInt ≤ A + 1000) {Q : Sg → Unit → Prop} {X : Sg → String → Prop} (hQ : ∀ (σ' : Sg) (r : Unit), Rg ra jx rm σ' → Fr ra jx rm [115, 116] [117] σ σ' → (PtI ra rm σ' b A ∧ gI σ' rm 117 = gI σ rm 117 + 1) → Q σ' r) (hX : ∀ (σ' : Sg) (E : String), Rg ra jx rm σ' → Fr ra jx rm [115, 116] [117] σ σ' → (E = "StreamHouseModel$Broken") → X σ' E) : wp_X16_pass ra jx rm v1 v3 v4 σ Q X := by
  obtain ⟨g1, g2, g3, g4, g5, g6, g7, g8⟩ := id g
  have fσ : Fr ra jx rm [115, 116] [117] σ σ := Fr.rf
  have pt9 := hpt
  unfold wp_X16_pass
  unfold w_X16_pass_0
  try simp only [forall_eq, rII, rIJ, rIP, rJJ, rJI, rJP, rPP, rPI, rPJ, g1, g2, g3, g4, g5, g6, g7, g8, Nat.reduceEqDiff, Nat.reduceAdd, false_and, and_false, true_and, and_true, reduceIte, nZ0, nZ1]
  have q1 := rσ.2.1 117; simp only [rgS] at q1
  split
  · rename_i hc7
    skip
    unfold w_X16_pass_15
    try simp only [forall_eq, rII, rIJ, rIP, rJJ, rJI, rJP, rPP, rPI, rPJ, g1, g2, g3, g4, g5, g6, g7, g8, Nat.reduceEqDiff, Nat.reduceAdd, false_and, and_false, true_and, and_true, reduceIte, nZ0, nZ1]
    refine ⟨by (first | omega | with_reducible assumption | (unfold rng; omega) | (unfold rng; (repeat' split) <;> omega) | grind), ?_⟩
    have L28 : ∀ (fu28 : Nat) (τ28 : Sg) (v5 : Int), Rg ra jx rm τ28 → Fr ra jx rm [115, 116] [117] σ τ28 → (0 ≤ v5 ∧ v5 ≤ 8 ∧ gI τ28 rm 117 = gI σ rm 117 ∧ (∀ i : Nat, gJ τ28 (ra 115) i = if i = (gI σ rm 117).toNat then v1 else gJ σ (ra 115) i)) → ((8 - v5).toNat) < fu28 → wl_X16_pass_28 ra jx rm Q X fu28 τ28 v3 v4 v5 := by
      intro fu28
      induction fu28 with
      | zero => intro τ28 _ _ _ _ h9; omega
      | succ fu28 ih28 =>
        intro τ28 v5 rτ28 fτ28 hi28 hm28
        unfold wl_X16_pass_28
        have jτ28 := fτ28.2.2.1
        unfold w_X16_pass_28
        try simp only [forall_eq, rII, rIJ, rIP, rJJ, rJI, rJP, rPP, rPI, rPJ, g1, g2, g3, g4, g5, g6, g7, g8, Nat.reduceEqDiff, Nat.reduceAdd, false_and, and_false, true_and, and_true, reduceIte, nZ0, nZ1, fun a k => (jτ28 a k).1, fun a k => (jτ28 a k).2]
        obtain ⟨k1, k2, k3, k4⟩ := hi28
        split
        · rename_i hc32
          skip
          unfold w_X16_pass_63
          try simp only [forall_eq, rII, rIJ, rIP, rJJ, rJI, rJP, rPP, rPI, rPJ, g1, g2, g3, g4, g5, g6, g7, g8, Nat.reduceEqDiff, Nat.reduceAdd, false_and, and_false, true_and, and_true, reduceIte, nZ0, nZ1, fun a k => (jτ28 a k).1, fun a k => (jτ28 a k).2]
          have q2 := rτ28.2.1 117; simp only [rgS] at q2
          refine ⟨by (first | omega | with_reducible assumption | (unfold rng; omega) | (unfold rng; (repeat' split) <;> omega) | grind), ?_⟩
          refine hQ _ _ ?_ ?_ ?_
          · refine Rg.sI g ?_ (by simp only [rgS]; first | with_reducible exact nZ_rng _ | with_reducible exact nB_rng _ | with_reducible exact wr_rng _ | with_reducible exact i32any _ | (first | omega | with_reducible assumption | (unfold rng; omega) | (unfold rng; (repeat' split) <;> omega) | grind)); exact rτ28
          · refine Fr.sI g ?_ (by decide); exact fτ28
          · refine ⟨PtI.add hpt ?_ ?_ hv, ?_⟩ <;> (intros; (try simp only [rII, rIJ, rIP, rJJ, rJI, rJP, rPP, rPI, rPJ, g1, g2, g3, g4, g5, g6, g7, g8, Nat.reduceEqDiff, Nat.reduceAdd, false_and, and_false, true_and, and_true, reduceIte, nZ0, nZ1, fun a k => (jτ28 a k).1, fun a k => (jτ28 a k).2]) <;> first | omega | exact k4 _)
        · rename_i hc32
          skip
          unfold w_X16_pass_35
          try simp only [forall_eq, rII, rIJ, rIP, rJJ, rJI, rJP, rPP, rPI, rPJ, g1, g2, g3, g4, g5, g6, g7, g8, Nat.reduceEqDiff, Nat.reduceAdd, false_and, and_false, true_and, and_true, reduceIte, nZ0, nZ1, fun a k => (jτ28 a k).1, fun a k => (jτ28 a k).2]
          have q3 := rτ28.2.1 117; simp only [rgS] at q3
          refine ⟨by (first | omega | with_reducible assumption | (unfold rng; omega) | (unfold rng; (repeat' split) <;> omega) | grind), ?_⟩
          refine ⟨by (first | omega | with_reducible assumption | (unfold rng; omega) | (unfold rng; (repeat' split) <;> omega) | grind), ?_⟩
          refine ⟨by (first | omega | with_reducible assumption | (unfold rng; omega) | (unfold rng; (repeat' split) <;> omega) | grind), ?_⟩
          refine ⟨b3, n3, ha3, hr3, by (first | omega | with_reducible assumption | (unfold rng; omega) | (unfold rng; (repeat' split) <;> omega) | grind), ?_⟩
          refine ⟨by (first | omega | with_reducible assumption | (unfold rng; omega) | (unfold rng; (repeat' split) <;> omega) | grind), ?_⟩
          refine ⟨by (first | omega | with_reducible assumption | (unfold rng; omega) | (unfold rng; (repeat' split) <;> omega) | grind), ?_⟩
          refine ih28 _ _ ?_ ?_ ?_ ?_
          · refine Rg.aJ g ?_ (by simp only [rlT]; first | with_reducible assumption | omega | exact Int64.toInt_le _ | (rw [Int64.toInt_ofInt_of_le (by omega) (by omega)]; omega) | grind); exact rτ28
          · refine Fr.aJ g ?_ (by decide); exact fτ28
          · refine ⟨by omega, by omega, ?_, ?_⟩ <;> (intros; (try simp only [rII, rIJ, rIP, rJJ, rJI, rJP, rPP, rPI, rPJ, g1, g2, g3, g4, g5, g6, g7, g8, Nat.reduceEqDiff, Nat.reduceAdd, false_and, and_false, true_and, and_true, reduceIte, nZ0, nZ1, fun a k => (jτ28 a k).1, fun a k => (jτ28 a k).2]) <;> first | omega | exact k4 _)
          · (try simp only [rII, rIJ, rIP, rJJ, rJI, rJP, rPP, rPI, rPJ, g1, g2, g3, g4, g5, g6, g7, g8, Nat.reduceEqDiff, Nat.reduceAdd, false_and, and_false, true_and, and_true, reduceIte, nZ0, nZ1, fun a k => (jτ28 a k).1, fun a k => (jτ28 a k).2]) <;> (first | omega | with_reducible assumption | (unfold rng; omega) | (unfold rng; (repeat' split) <;> omega) | grind)
    refine ⟨_, L28 _ _ _ ?_ ?_ ?_ (Nat.lt_succ_self _)⟩
    · refine Rg.aJ g ?_ (by simp only [rlT]; first | with_reducible assumption | omega | exact Int64.toInt_le _ | (rw [Int64.toInt_ofInt_of_le (by omega) (by omega)]; omega) | grind); exact rσ
    · refine Fr.aJ g ?_ (by decide); exact fσ
    · refine ⟨by omega, by omega, ?_, ?_⟩ <;> (intros; (try simp only [rII, rIJ, rIP, rJJ, rJI, rJP, rPP, rPI, rPJ, g1, g2, g3, g4, g5, g6, g7, g8, Nat.reduceEqDiff, Nat.reduceAdd, false_and, and_false, true_and, and_true, reduceIte, nZ0, nZ1]) <;> first | omega | exact k4 _)
  · rename_i hc7
    skip
    unfold w_X16_pass_10
    try simp only [forall_eq, rII, rIJ, rIP, rJJ, rJI, rJP, rPP, rPI, rPJ, g1, g2, g3, g4, g5, g6, g7, g8, Nat.reduceEqDiff, Nat.reduceAdd, false_and, and_false, true_and, and_true, reduceIte, nZ0, nZ1]
    refine ⟨by simp, ?_⟩
    refine hX _ _ ?_ ?_ ?_
    · exact rσ
    · exact fσ
    · first | rfl | exact ⟨rfl, by trivial⟩
set_option maxHeartbeats 1000000 in
theorem s2_X16_sort {ra : Nat → Nat} {jx : Nat → Nat → Nat} {rm : Nat} {ja : Nat} (g : Geo ra jx rm) {σ : Sg} {v1 : Int} (rσ : Rg ra jx rm σ) (hj : gP σ rm 17 = some ja) (hja : ja = ra 15 ∨ ja = ra 16) (h1 : 0 ≤ v1 ∧ v1 < 16) {Q : Sg → Int → Prop} {X : Sg → String → Prop} (hQ : ∀ (σ' : Sg) (r : Int), Rg ra jx rm σ' → Fr ra jx rm [119] [] σ σ' → ((0 ≤ r ∧ r ≤ 4000) ∧ (∀ i : Nat, (i : Int) < r → gI σ (ra 118) v1.toNat ≤ gI σ' (ra 119) i ∧ gI σ' (ra 119) i < gI σ (ra 118) (v1 + 1).toNat)) → Q σ' r) : wp_X16_sort ra jx rm v1 σ Q X := by
  obtain ⟨g1, g2, g3, g4, g5, g6, g7, g8⟩ := id g
  have fσ : Fr ra jx rm [119] [] σ σ := Fr.rf
  unfold wp_X16_sort
  unfold w_X16_sort_0
  try simp only [forall_eq, rII, rIJ, rIP, rJJ, rJI, rJP, rPP, rPI, rPJ, g1, g2, g3, g4, g5, g6, g7, g8, Nat.reduceEqDiff, Nat.reduceAdd, false_and, and_false, true_and, and_true, reduceIte, nZ0, nZ1]
  refine ⟨by (first | omega | with_reducible assumption | (unfold rng; omega) | (unfold rng; (repeat' split) <;> omega) | grind), ?_⟩
  have q1 := rσ.1 118 (v1.toNat); simp only [rgT] at q1
  have q2 := rσ.1 118 ((v1 + 1).toNat); simp only [rgT] at q2
  have L9 : ∀ (fu9 : Nat) (τ9 : Sg) (v2 : Int) (v3 : Int), Rg ra jx rm τ9 → Fr ra jx rm [119] [] σ τ9 → ((gI σ (ra 118) v1.toNat ≤ v3 ∧ v2 = v3 - gI σ (ra 118) v1.toNat ∧ v3 ≤ 4000) ∧ (v3 ≤ gI σ (ra 118) (v1 + 1).toNat ∨ v2 = 0) ∧ (∀ i : Nat, (i : Int) < v2 → gI σ (ra 118) v1.toNat ≤ gI τ9 (ra 119) i ∧ gI τ9 (ra 119) i < v3)) → ((4000 - v3).toNat) < fu9 → wl_X16_sort_9 ra jx rm Q X fu9 τ9 v1 v2 v3 := by
    intro fu9
    induction fu9 with
    | zero => intro τ9 _ _ _ _ _ h9; omega
    | succ fu9 ih9 =>
      intro τ9 v2 v3 rτ9 fτ9 hi9 hm9
      unfold wl_X16_sort_9
      have eτ9_115 := fτ9.1 115 (by decide)
      have eτ9_118 := fτ9.1 118 (by decide)
      have jτ9 := fτ9.2.2.1
      have pτ9 := fτ9.2.2.2
      unfold w_X16_sort_9
      try simp only [forall_eq, rII, rIJ, rIP, rJJ, rJI, rJP, rPP, rPI, rPJ, g1, g2, g3, g4, g5, g6, g7, g8, Nat.reduceEqDiff, Nat.reduceAdd, false_and, and_false, true_and, and_true, reduceIte, nZ0, nZ1, eτ9_115.1, eτ9_115.2, eτ9_118.1, eτ9_118.2, fun a k => (jτ9 a k).1, fun a k => (jτ9 a k).2, pτ9]
      obtain ⟨⟨i1, i2, i3⟩, i5, i4⟩ := hi9
      refine ⟨by (first | omega | with_reducible assumption | (unfold rng; omega) | (unfold rng; (repeat' split) <;> omega) | grind), ?_⟩
      refine ⟨by (first | omega | with_reducible assumption | (unfold rng; omega) | (unfold rng; (repeat' split) <;> omega) | grind), ?_⟩
      split
      · rename_i hc18
        skip
        unfold w_X16_sort_128
        try simp only [forall_eq, rII, rIJ, rIP, rJJ, rJI, rJP, rPP, rPI, rPJ, g1, g2, g3, g4, g5, g6, g7, g8, Nat.reduceEqDiff, Nat.reduceAdd, false_and, and_false, true_and, and_true, reduceIte, nZ0, nZ1, eτ9_115.1, eτ9_115.2, eτ9_118.1, eτ9_118.2, fun a k => (jτ9 a k).1, fun a k => (jτ9 a k).2, pτ9]
        refine hQ _ _ ?_ ?_ ?_
        · exact rτ9
        · exact fτ9
        · refine ⟨⟨by omega, by omega⟩, fun i hi => ?_⟩; have w9 := i4 i hi; omega
      · rename_i hc18
        skip
        unfold w_X16_sort_21
        try simp only [forall_eq, rII, rIJ, rIP, rJJ, rJI, rJP, rPP, rPI, rPJ, g1, g2, g3, g4, g5, g6, g7, g8, Nat.reduceEqDiff, Nat.reduceAdd, false_and, and_false, true_and, and_true, reduceIte, nZ0, nZ1, eτ9_115.1, eτ9_115.2, eτ9_118.1, eτ9_118.2, fun a k => (jτ9 a k).1, fun a k => (jτ9 a k).2, pτ9]
        have L24 : ∀ (fu24 : Nat) (τ24 : Sg) (v4 : Int), Rg ra jx rm τ24 → Fr ra jx rm [119] [] σ τ24 → ((0 ≤ v4 ∧ v4 ≤ v2) ∧ (∀ i : Nat, (i : Int) < v2 + 1 → (i : Int) ≠ v4 → gI σ (ra 118) v1.toNat ≤ gI τ24 (ra 119) i ∧ gI τ24 (ra 119) i < v3)) → (v4.toNat) < fu24 → wl_X16_sort_24 ra jx rm (wl_X16_sort_9 ra jx rm Q X fu9) Q X fu24 τ24 v1 v2 v3 v4 := by
          intro fu24
          induction fu24 with
          | zero => intro τ24 _ _ _ _ h9; omega
          | succ fu24 ih24 =>
            intro τ24 v4 rτ24 fτ24 hi24 hm24
            unfold wl_X16_sort_24
            have eτ24_115 := fτ24.1 115 (by decide)
            have eτ24_118 := fτ24.1 118 (by decide)
            have jτ24 := fτ24.2.2.1
            have pτ24 := fτ24.2.2.2
            unfold w_X16_sort_24
            try simp only [forall_eq, rII, rIJ, rIP, rJJ, rJI, rJP, rPP, rPI, rPJ, g1, g2, g3, g4, g5, g6, g7, g8, Nat.reduceEqDiff, Nat.reduceAdd, false_and, and_false, true_and, and_true, reduceIte, nZ0, nZ1, eτ24_115.1, eτ24_115.2, eτ24_118.1, eτ24_118.2, fun a k => (jτ24 a k).1, fun a k => (jτ24 a k).2, pτ24]
            obtain ⟨⟨j1, j2⟩, j4⟩ := hi24
            split
            · rename_i hc26
              skip
              unfold w_X16_sort_111
              try simp only [forall_eq, rII, rIJ, rIP, rJJ, rJI, rJP, rPP, rPI, rPJ, g1, g2, g3, g4, g5, g6, g7, g8, Nat.reduceEqDiff, Nat.reduceAdd, false_and, and_false, true_and, and_true, reduceIte, nZ0, nZ1, eτ24_115.1, eτ24_115.2, eτ24_118.1, eτ24_118.2, fun a k => (jτ24 a k).1, fun a k => (jτ24 a k).2, pτ24]
              refine ⟨by (first | omega | with_reducible assumption | (unfold rng; omega) | (unfold rng; (repeat' split) <;> omega) | grind), ?_⟩
              refine ⟨by (first | omega | with_reducible assumption | (unfold rng; omega) | (unfold rng; (repeat' split) <;> omega) | grind), ?_⟩
              refine ⟨by (first | omega | with_reducible assumption | (unfold rng; omega) | (unfold rng; (repeat' split) <;> omega) | grind), ?_⟩
              refine ih9 _ _ _ ?_ ?_ ?_ ?_
              · refine Rg.aI g ?_ (by simp only [rgT]; first | with_reducible exact nZ_rng _ | with_reducible exact nB_rng _ | with_reducible exact wr_rng _ | with_reducible exact i32any _ | (first | omega | with_reducible assumption | (unfold rng; omega) | (unfold rng; (repeat' split) <;> omega) | grind)); exact rτ24
              · refine Fr.aI g ?_ (by decide); exact fτ24
              · first | exact ⟨⟨by omega, by omega, by omega⟩, by omega, fun i hi => absurd hi (by omega)⟩ | (refine ⟨⟨by omega, by omega, by omega⟩, by omega, fun i hi => ?_⟩; have w9 := j4 i; (try simp only [rII, rIJ, rIP, rJJ, rJI, rJP, rPP, rPI, rPJ, g1, g2, g3, g4, g5, g6, g7, g8, Nat.reduceEqDiff, Nat.reduceAdd, false_and, and_false, true_and, and_true, reduceIte, nZ0, nZ1, eτ24_115.1, eτ24_115.2, eτ24_118.1, eτ24_118.2, fun a k => (jτ24 a k).1, fun a k => (jτ24 a k).2, pτ24]) <;> (split <;> omega))
              · (try simp only [rII, rIJ, rIP, rJJ, rJI, rJP, rPP, rPI, rPJ, g1, g2, g3, g4, g5, g6, g7, g8, Nat.reduceEqDiff, Nat.reduceAdd, false_and, and_false, true_and, and_true, reduceIte, nZ0, nZ1, eτ24_115.1, eτ24_115.2, eτ24_118.1, eτ24_118.2, fun a k => (jτ24 a k).1, fun a k => (jτ24 a k).2, pτ24]) <;> (first | omega | with_reducible assumption | (unfold rng; omega) | (unfold rng; (repeat' split) <;> omega) | grind)
            · rename_i hc26
              skip
              unfold w_X16_sort_29
              try simp only [forall_eq, rII, rIJ, rIP, rJJ, rJI, rJP, rPP, rPI, rPJ, g1, g2, g3, g4, g5, g6, g7, g8, Nat.reduceEqDiff, Nat.reduceAdd, false_and, and_false, true_and, and_true, reduceIte, nZ0, nZ1, eτ24_115.1, eτ24_115.2, eτ24_118.1, eτ24_118.2, fun a k => (jτ24 a k).1, fun a k => (jτ24 a k).2, pτ24]
              refine ⟨by (first | omega | with_reducible assumption | (unfold rng; omega) | (unfold rng; (repeat' split) <;> omega) | grind), ?_⟩
              refine ⟨by (first | omega | with_reducible assumption | (unfold rng; omega) | (unfold rng; (repeat' split) <;> omega) | grind), ?_⟩
              refine ⟨by (first | omega | with_reducible assumption | (unfold rng; omega) | (unfold rng; (repeat' split) <;> omega) | grind), ?_⟩
              refine ⟨by (first | omega | with_reducible assumption | (unfold rng; omega) | (unfold rng; (repeat' split) <;> omega) | grind), ?_⟩
              have q3 := rτ24.1 119 ((v4 - 1).toNat); simp only [rgT] at q3
              refine ⟨by (first | omega | with_reducible assumption | (unfold rng; omega) | (unfold rng; (repeat' split) <;> omega) | grind), ?_⟩
              refine ⟨by (first | omega | with_reducible assumption | (unfold rng; omega) | (unfold rng; (repeat' split) <;> omega) | grind), ?_⟩
              refine ⟨by (first | omega | with_reducible assumption | (unfold rng; omega) | (unfold rng; (repeat' split) <;> omega) | grind), ?_⟩
              refine ⟨by (first | omega | with_reducible assumption | (unfold rng; omega) | (unfold rng; (repeat' split) <;> omega) | grind), ?_⟩
              refine ⟨ja, by exact hj, hja, ?_⟩
              refine ⟨by (first | omega | with_reducible assumption | (unfold rng; omega) | (unfold rng; (repeat' split) <;> omega) | grind), ?_⟩
              have q4 := rσ.2.2.1 ja 6 (v1.toNat); simp only [rgJ] at q4
              refine s_X16_order (b3 := (ra 116)) (n3 := 32000) (b7 := (ra 116)) (n7 := 32000) g rτ24 rfl (Or.inl ⟨116, rfl, by decide⟩) rfl (Or.inl ⟨116, rfl, by decide⟩) (by (try simp only [rII, rIJ, rIP, rJJ, rJI, rJP, rPP, rPI, rPJ, g1, g2, g3, g4, g5, g6, g7, g8, Nat.reduceEqDiff, Nat.reduceAdd, false_and, and_false, true_and, and_true, reduceIte, nZ0, nZ1, eτ24_115.1, eτ24_115.2, eτ24_118.1, eτ24_118.2, fun a k => (jτ24 a k).1, fun a k => (jτ24 a k).2, pτ24]) <;> (first | omega | with_reducible assumption | (unfold rng; omega) | (unfold rng; (repeat' split) <;> omega) | grind)) (by (try simp only [rII, rIJ, rIP, rJJ, rJI, rJP, rPP, rPI, rPJ, g1, g2, g3, g4, g5, g6, g7, g8, Nat.reduceEqDiff, Nat.reduceAdd, false_and, and_false, true_and, and_true, reduceIte, nZ0, nZ1, eτ24_115.1, eτ24_115.2, eτ24_118.1, eτ24_118.2, fun a k => (jτ24 a k).1, fun a k => (jτ24 a k).2, pτ24]) <;> (first | omega | with_reducible assumption | (unfold rng; omega) | (unfold rng; (repeat' split) <;> omega) | grind)) (by (try simp only [rII, rIJ, rIP, rJJ, rJI, rJP, rPP, rPI, rPJ, g1, g2, g3, g4, g5, g6, g7, g8, Nat.reduceEqDiff, Nat.reduceAdd, false_and, and_false, true_and, and_true, reduceIte, nZ0, nZ1, eτ24_115.1, eτ24_115.2, eτ24_118.1, eτ24_118.2, fun a k => (jτ24 a k).1, fun a k => (jτ24 a k).2, pτ24]) <;> (first | omega | with_reducible assumption | (unfold rng; omega) | (unfold rng; (repeat' split) <;> omega) | grind)) (by (try simp only [rII, rIJ, rIP, rJJ, rJI, rJP, rPP, rPI, rPJ, g1, g2, g3, g4, g5, g6, g7, g8, Nat.reduceEqDiff, Nat.reduceAdd, false_and, and_false, true_and, and_true, reduceIte, nZ0, nZ1, eτ24_115.1, eτ24_115.2, eτ24_118.1, eτ24_118.2, fun a k => (jτ24 a k).1, fun a k => (jτ24 a k).2, pτ24]) <;> (first | omega | with_reducible assumption | (unfold rng; omega) | (unfold rng; (repeat' split) <;> omega) | grind)) (by (try simp only [rII, rIJ, rIP, rJJ, rJI, rJP, rPP, rPI, rPJ, g1, g2, g3, g4, g5, g6, g7, g8, Nat.reduceEqDiff, Nat.reduceAdd, false_and, and_false, true_and, and_true, reduceIte, nZ0, nZ1, eτ24_115.1, eτ24_115.2, eτ24_118.1, eτ24_118.2, fun a k => (jτ24 a k).1, fun a k => (jτ24 a k).2, pτ24]) <;> (first | omega | with_reducible assumption | (unfold rng; omega) | (unfold rng; (repeat' split) <;> omega) | grind)) (fun r14 p5 => ?_)
              try simp only [forall_eq, rII, rIJ, rIP, rJJ, rJI, rJP, rPP, rPI, rPJ, g1, g2, g3, g4, g5, g6, g7, g8, Nat.reduceEqDiff, Nat.reduceAdd, false_and, and_false, true_and, and_true, reduceIte, nZ0, nZ1, eτ24_115.1, eτ24_115.2, eτ24_118.1, eτ24_118.2, fun a k => (jτ24 a k).1, fun a k => (jτ24 a k).2, pτ24]
              split
              · rename_i hc86
                skip
                unfold w_X16_sort_111
                try simp only [forall_eq, rII, rIJ, rIP, rJJ, rJI, rJP, rPP, rPI, rPJ, g1, g2, g3, g4, g5, g6, g7, g8, Nat.reduceEqDiff, Nat.reduceAdd, false_and, and_false, true_and, and_true, reduceIte, nZ0, nZ1, eτ24_115.1, eτ24_115.2, eτ24_118.1, eτ24_118.2, fun a k => (jτ24 a k).1, fun a k => (jτ24 a k).2, pτ24]
                refine ⟨by (first | omega | with_reducible assumption | (unfold rng; omega) | (unfold rng; (repeat' split) <;> omega) | grind), ?_⟩
                refine ⟨by (first | omega | with_reducible assumption | (unfold rng; omega) | (unfold rng; (repeat' split) <;> omega) | grind), ?_⟩
                refine ⟨by (first | omega | with_reducible assumption | (unfold rng; omega) | (unfold rng; (repeat' split) <;> omega) | grind), ?_⟩
                refine ih9 _ _ _ ?_ ?_ ?_ ?_
                · refine Rg.aI g ?_ (by simp only [rgT]; first | with_reducible exact nZ_rng _ | with_reducible exact nB_rng _ | with_reducible exact wr_rng _ | with_reducible exact i32any _ | (first | omega | with_reducible assumption | (unfold rng; omega) | (unfold rng; (repeat' split) <;> omega) | grind)); exact rτ24
                · refine Fr.aI g ?_ (by decide); exact fτ24
                · first | exact ⟨⟨by omega, by omega, by omega⟩, by omega, fun i hi => absurd hi (by omega)⟩ | (refine ⟨⟨by omega, by omega, by omega⟩, by omega, fun i hi => ?_⟩; have w9 := j4 i; (try simp only [rII, rIJ, rIP, rJJ, rJI, rJP, rPP, rPI, rPJ, g1, g2, g3, g4, g5, g6, g7, g8, Nat.reduceEqDiff, Nat.reduceAdd, false_and, and_false, true_and, and_true, reduceIte, nZ0, nZ1, eτ24_115.1, eτ24_115.2, eτ24_118.1, eτ24_118.2, fun a k => (jτ24 a k).1, fun a k => (jτ24 a k).2, pτ24]) <;> (split <;> omega))
                · (try simp only [rII, rIJ, rIP, rJJ, rJI, rJP, rPP, rPI, rPJ, g1, g2, g3, g4, g5, g6, g7, g8, Nat.reduceEqDiff, Nat.reduceAdd, false_and, and_false, true_and, and_true, reduceIte, nZ0, nZ1, eτ24_115.1, eτ24_115.2, eτ24_118.1, eτ24_118.2, fun a k => (jτ24 a k).1, fun a k => (jτ24 a k).2, pτ24]) <;> (first | omega | with_reducible assumption | (unfold rng; omega) | (unfold rng; (repeat' split) <;> omega) | grind)
              · rename_i hc86
                skip
                unfold w_X16_sort_89
                try simp only [forall_eq, rII, rIJ, rIP, rJJ, rJI, rJP, rPP, rPI, rPJ, g1, g2, g3, g4, g5, g6, g7, g8, Nat.reduceEqDiff, Nat.reduceAdd, false_and, and_false, true_and, and_true, reduceIte, nZ0, nZ1, eτ24_115.1, eτ24_115.2, eτ24_118.1, eτ24_118.2, fun a k => (jτ24 a k).1, fun a k => (jτ24 a k).2, pτ24]
                refine ⟨by (first | omega | with_reducible assumption | (unfold rng; omega) | (unfold rng; (repeat' split) <;> omega) | grind), ?_⟩
                refine ⟨by (first | omega | with_reducible assumption | (unfold rng; omega) | (unfold rng; (repeat' split) <;> omega) | grind), ?_⟩
                refine ⟨by (first | omega | with_reducible assumption | (unfold rng; omega) | (unfold rng; (repeat' split) <;> omega) | grind), ?_⟩
                refine ⟨by (first | omega | with_reducible assumption | (unfold rng; omega) | (unfold rng; (repeat' split) <;> omega) | grind), ?_⟩
                refine ih24 _ _ ?_ ?_ ?_ ?_
                · refine Rg.aI g ?_ (by simp only [rgT]; first | with_reducible exact nZ_rng _ | with_reducible exact nB_rng _ | with_reducible exact wr_rng _ | with_reducible exact i32any _ | (first | omega | with_reducible assumption | (unfold rng; omega) | (unfold rng; (repeat' split) <;> omega) | grind)); exact rτ24
                · refine Fr.aI g ?_ (by decide); exact fτ24
                · first | exact ⟨⟨by omega, by omega⟩, fun i hi hn => i4 i (by omega)⟩ | (refine ⟨⟨by omega, by omega⟩, fun i hi hn => ?_⟩; have w9 := j4 i; have w8 := j4 (v4 - 1).toNat; (try simp only [rII, rIJ, rIP, rJJ, rJI, rJP, rPP, rPI, rPJ, g1, g2, g3, g4, g5, g6, g7, g8, Nat.reduceEqDiff, Nat.reduceAdd, false_and, and_false, true_and, and_true, reduceIte, nZ0, nZ1, eτ24_115.1, eτ24_115.2, eτ24_118.1, eτ24_118.2, fun a k => (jτ24 a k).1, fun a k => (jτ24 a k).2, pτ24]) <;> (split <;> omega))
                · (try simp only [rII, rIJ, rIP, rJJ, rJI, rJP, rPP, rPI, rPJ, g1, g2, g3, g4, g5, g6, g7, g8, Nat.reduceEqDiff, Nat.reduceAdd, false_and, and_false, true_and, and_true, reduceIte, nZ0, nZ1, eτ24_115.1, eτ24_115.2, eτ24_118.1, eτ24_118.2, fun a k => (jτ24 a k).1, fun a k => (jτ24 a k).2, pτ24]) <;> (first | omega | with_reducible assumption | (unfold rng; omega) | (unfold rng; (repeat' split) <;> omega) | grind)
        refine ⟨_, L24 _ _ _ ?_ ?_ ?_ (Nat.lt_succ_self _)⟩
        · exact rτ9
        · exact fτ9
        · first | exact ⟨⟨by omega, by omega⟩, fun i hi hn => i4 i (by omega)⟩ | (refine ⟨⟨by omega, by omega⟩, fun i hi hn => ?_⟩; have w9 := j4 i; have w8 := j4 (v4 - 1).toNat; (try simp only [rII, rIJ, rIP, rJJ, rJI, rJP, rPP, rPI, rPJ, g1, g2, g3, g4, g5, g6, g7, g8, Nat.reduceEqDiff, Nat.reduceAdd, false_and, and_false, true_and, and_true, reduceIte, nZ0, nZ1, eτ9_115.1, eτ9_115.2, eτ9_118.1, eτ9_118.2, fun a k => (jτ9 a k).1, fun a k => (jτ9 a k).2, pτ9]) <;> (split <;> omega))
  refine ⟨_, L9 _ _ _ _ ?_ ?_ ?_ (Nat.lt_succ_self _)⟩
  · exact rσ
  · exact fσ
  · first | exact ⟨⟨by omega, by omega, by omega⟩, by omega, fun i hi => absurd hi (by omega)⟩ | (refine ⟨⟨by omega, by omega, by omega⟩, by omega, fun i hi => ?_⟩; have w9 := j4 i; (try simp only [rII, rIJ, rIP, rJJ, rJI, rJP, rPP, rPI, rPJ, g1, g2, g3, g4, g5, g6, g7, g8, Nat.reduceEqDiff, Nat.reduceAdd, false_and, and_false, true_and, and_true, reduceIte, nZ0, nZ1]) <;> (split <;> omega))
set_option maxHeartbeats 8000000 in
theorem s2_X16_passEach {ra : Nat → Nat} {jx : Nat → Nat → Nat} {rm : Nat} {ja : Nat} {b : Int} {A : Int} (g : Geo ra jx rm) {σ : Sg} {v1 : Int} {v2 : Int} (rσ : Rg ra jx rm σ) (hj : gP σ rm 17 = some ja) (hja : ja = ra 15 ∨ ja = ra 16) (h1 : 0 ≤ v1 ∧ v1 < 16) (h2 : 0 ≤ v2 ∧ v2 < 16) (hk3 : gI σ (jx ja 2) v1.toNat ≠ 3 → 1 ≤ gI σ (jx ja 12) v1.toNat ∧ ∀ k, 0 ≤ k → k < gI σ (jx ja 12) v1.toNat → PO jx ja σ (gI σ (jx ja 13) (8 * v1 + k).toNat)) (hpt : PtI ra rm σ b A) (hA : 1000000 ≤ A ∧ A ≤ 2000000) (hin_v2 : gI σ (ra 118) (v2 + 1).toNat ≤ b) {Q : Sg → Unit → Prop} {X : Sg → String → Prop} (hQ : ∀ (σ' : Sg) (r : Unit), Rg ra jx rm σ' → Fr ra jx rm [20, 81, 82, 115, 116] [21, 117] σ σ' → (PtI ra rm σ' b A ∧ (True)) → Q σ' r) (hX : ∀ (σ' : Sg) (E : String), Rg ra jx rm σ' → Fr ra jx rm [20, 81, 82, 115, 116] [21, 117] σ σ' → (E = "StreamHouseModel$Broken") → X σ' E) : wp_X16_passEach ra jx rm v1 v2 σ Q X := by
  obtain ⟨g1, g2, g3, g4, g5, g6, g7, g8⟩ := id g
  have fσ : Fr ra jx rm [20, 81, 82, 115, 116] [21, 117] σ σ := Fr.rf
  have pt9 := hpt
  unfold wp_X16_passEach
  unfold w_X16_passEach_0
  try simp only [forall_eq, rII, rIJ, rIP, rJJ, rJI, rJP, rPP, rPI, rPJ, g1, g2, g3, g4, g5, g6, g7, g8, Nat.reduceEqDiff, Nat.reduceAdd, false_and, and_false, true_and, and_true, reduceIte, nZ0, nZ1]
  refine ⟨by (first | omega | with_reducible assumption | (unfold rng; omega) | (unfold rng; (repeat' split) <;> omega) | grind), ?_⟩
  have q1 := rσ.1 118 (v2.toNat); simp only [rgT] at q1
  have L7 : ∀ (fu7 : Nat) (τ7 : Sg) (v3 : Int), Rg ra jx rm τ7 → Fr ra jx rm [20, 81, 82, 115, 116] [21, 117] σ τ7 → (PtI ra rm τ7 b A ∧ (0 ≤ v3)) → ((4000 - v3).toNat) < fu7 → wl_X16_passEach_7 ra jx rm Q X fu7 τ7 v1 v2 v3 := by
    intro fu7
    induction fu7 with
    | zero => intro τ7 _ _ _ _ h9; omega
    | succ fu7 ih7 =>
      intro τ7 v3 rτ7 fτ7 hi7 hm7
      unfold wl_X16_passEach_7
      have eτ7_118 := fτ7.1 118 (by decide)
      have jτ7 := fτ7.2.2.1
      have pτ7 := fτ7.2.2.2
      unfold w_X16_passEach_7
      try simp only [forall_eq, rII, rIJ, rIP, rJJ, rJI, rJP, rPP, rPI, rPJ, g1, g2, g3, g4, g5, g6, g7, g8, Nat.reduceEqDiff, Nat.reduceAdd, false_and, and_false, true_and, and_true, reduceIte, nZ0, nZ1, eτ7_118.1, eτ7_118.2, fun a k => (jτ7 a k).1, fun a k => (jτ7 a k).2, pτ7]
      obtain ⟨pt9, hi7⟩ := hi7
      refine ⟨by (first | omega | with_reducible assumption | (unfold rng; omega) | (unfold rng; (repeat' split) <;> omega) | grind), ?_⟩
      refine ⟨by (first | omega | with_reducible assumption | (unfold rng; omega) | (unfold rng; (repeat' split) <;> omega) | grind), ?_⟩
      have q2 := rσ.1 118 ((v2 + 1).toNat); simp only [rgT] at q2
      split
      · rename_i hc16
        skip
        unfold w_X16_passEach_269
        try simp only [forall_eq, rII, rIJ, rIP, rJJ, rJI, rJP, rPP, rPI, rPJ, g1, g2, g3, g4, g5, g6, g7, g8, Nat.reduceEqDiff, Nat.reduceAdd, false_and, and_false, true_and, and_true, reduceIte, nZ0, nZ1, eτ7_118.1, eτ7_118.2, fun a k => (jτ7 a k).1, fun a k => (jτ7 a k).2, pτ7]
        refine hQ _ _ ?_ ?_ ?_
        · exact rτ7
        · exact fτ7
        · refine ⟨(by first | exact pt9 | exact PtI.fr (jx := jx) (K := [82]) (S := []) pt9 (by repeat (first | exact Fr.rf | assumption | refine Fr.aJ g ?_ (by decide) | refine Fr.aI g ?_ (by decide) | refine Fr.sI g ?_ (by decide) | refine Fr.sJ g ?_ (by decide))) (by decide) (by decide)), ?_⟩; first | trivial | (first | omega | with_reducible assumption | (unfold rng; omega) | (unfold rng; (repeat' split) <;> omega) | grind)
      · rename_i hc16
        skip
        unfold w_X16_passEach_19
        try simp only [forall_eq, rII, rIJ, rIP, rJJ, rJI, rJP, rPP, rPI, rPJ, g1, g2, g3, g4, g5, g6, g7, g8, Nat.reduceEqDiff, Nat.reduceAdd, false_and, and_false, true_and, and_true, reduceIte, nZ0, nZ1, eτ7_118.1, eτ7_118.2, fun a k => (jτ7 a k).1, fun a k => (jτ7 a k).2, pτ7]
        refine s_X16_load g rτ7 (by (try simp only [rII, rIJ, rIP, rJJ, rJI, rJP, rPP, rPI, rPJ, g1, g2, g3, g4, g5, g6, g7, g8, Nat.reduceEqDiff, Nat.reduceAdd, false_and, and_false, true_and, and_true, reduceIte, nZ0, nZ1, eτ7_118.1, eτ7_118.2, fun a k => (jτ7 a k).1, fun a k => (jτ7 a k).2, pτ7]) <;> (first | omega | with_reducible assumption | (unfold rng; omega) | (unfold rng; (repeat' split) <;> omega) | grind)) (fun σ31 _ rσ31 fc p3 => ?_)
        have fσ31 : Fr ra jx rm [20, 81, 82, 115, 116] [21, 117] σ σ31 := Fr.tr fτ7 (Fr.mor (fc) (by decide) (by decide))
        have pt9 := PtI.fr (PtI.fr (jx := jx) (K := [82]) (S := []) pt9 (by repeat (first | exact Fr.rf | assumption | refine Fr.aJ g ?_ (by decide) | refine Fr.aI g ?_ (by decide) | refine Fr.sI g ?_ (by decide) | refine Fr.sJ g ?_ (by decide))) (by decide) (by decide)) fc (by decide) (by decide)
        have eσ31_118 := fσ31.1 118 (by decide)
        have jσ31 := fσ31.2.2.1
        have pσ31 := fσ31.2.2.2
        try simp only [forall_eq, rII, rIJ, rIP, rJJ, rJI, rJP, rPP, rPI, rPJ, g1, g2, g3, g4, g5, g6, g7, g8, Nat.reduceEqDiff, Nat.reduceAdd, false_and, and_false, true_and, and_true, reduceIte, nZ0, nZ1, eσ31_118.1, eσ31_118.2, fun a k => (jσ31 a k).1, fun a k => (jσ31 a k).2, pσ31]
        refine ⟨ja, by exact hj, hja, ?_⟩
        refine ⟨by (first | omega | with_reducible assumption | (unfold rng; omega) | (unfold rng; (repeat' split) <;> omega) | grind), ?_⟩
        have q4 := rσ.2.2.1 ja 2 (v1.toNat); simp only [rgJ] at q4
        split
        · rename_i hc34
          skip
          unfold w_X16_passEach_55
          try simp only [forall_eq, rII, rIJ, rIP, rJJ, rJI, rJP, rPP, rPI, rPJ, g1, g2, g3, g4, g5, g6, g7, g8, Nat.reduceEqDiff, Nat.reduceAdd, false_and, and_false, true_and, and_true, reduceIte, nZ0, nZ1, eσ31_118.1, eσ31_118.2, fun a k => (jσ31 a k).1, fun a k => (jσ31 a k).2, pσ31]
          refine ⟨ja, by exact hj, hja, ?_⟩
          refine ⟨by (first | omega | with_reducible assumption | (unfold rng; omega) | (unfold rng; (repeat' split) <;> omega) | grind), ?_⟩
          split
          · rename_i hc65
            skip
            unfold w_X16_passEach_133
            try simp only [forall_eq, rII, rIJ, rIP, rJJ, rJI, rJP, rPP, rPI, rPJ, g1, g2, g3, g4, g5, g6, g7, g8, Nat.reduceEqDiff, Nat.reduceAdd, false_and, and_false, true_and, and_true, reduceIte, nZ0, nZ1, eσ31_118.1, eσ31_118.2, fun a k => (jσ31 a k).1, fun a k => (jσ31 a k).2, pσ31]
            have L139 : ∀ (fu139 : Nat) (τ139 : Sg) (v5 : Int), Rg ra jx rm τ139 → Fr ra jx rm [20, 81, 82, 115, 116] [21, 117] σ τ139 → (PtI ra rm τ139 b A ∧ (0 ≤ v5 ∧ v5 ≤ 8 ∧ (1 = 0 ∨ 1 = 1))) → ((8 - v5).toNat) < fu139 → wl_X16_passEach_139 ra jx rm (wl_X16_passEach_7 ra jx rm Q X fu7) Q X fu139 τ139 v1 v2 v3 1 v5 := by
              intro fu139
              induction fu139 with
              | zero => intro τ139 _ _ _ _ h9; omega
              | succ fu139 ih139 =>
                intro τ139 v5 rτ139 fτ139 hi139 hm139
                unfold wl_X16_passEach_139
                have eτ139_118 := fτ139.1 118 (by decide)
                have jτ139 := fτ139.2.2.1
                have pτ139 := fτ139.2.2.2
                unfold w_X16_passEach_139
                try simp only [forall_eq, rII, rIJ, rIP, rJJ, rJI, rJP, rPP, rPI, rPJ, g1, g2, g3, g4, g5, g6, g7, g8, Nat.reduceEqDiff, Nat.reduceAdd, false_and, and_false, true_and, and_true, reduceIte, nZ0, nZ1, eτ139_118.1, eτ139_118.2, fun a k => (jτ139 a k).1, fun a k => (jτ139 a k).2, pτ139]
                obtain ⟨pt9, hi139⟩ := hi139
                split
                · rename_i hc143
                  skip
                  unfold w_X16_passEach_160
                  try simp only [forall_eq, rII, rIJ, rIP, rJJ, rJI, rJP, rPP, rPI, rPJ, g1, g2, g3, g4, g5, g6, g7, g8, Nat.reduceEqDiff, Nat.reduceAdd, false_and, and_false, true_and, and_true, reduceIte, nZ0, nZ1, eτ139_118.1, eτ139_118.2, fun a k => (jτ139 a k).1, fun a k => (jτ139 a k).2, pτ139]
                  have q5 := rσ.2.2.1 ja 12 (v1.toNat); simp only [rgJ] at q5
                  have L163 : ∀ (fu163 : Nat) (τ163 : Sg) (v4 : Int) (v5 : Int), Rg ra jx rm τ163 → Fr ra jx rm [20, 81, 82, 115, 116] [21, 117] σ τ163 → (PtI ra rm τ163 b A ∧ (0 ≤ v5 ∧ v5 ≤ (gI σ (jx ja 12) v1.toNat) ∧ (v4 = 0 ∨ v4 = 1))) → (((gI σ (jx ja 12) v1.toNat) - v5).toNat) < fu163 → wl_X16_passEach_163 ra jx rm (wl_X16_passEach_7 ra jx rm Q X fu7) Q X fu163 τ163 v1 v2 v3 v4 v5 := by
                    intro fu163
                    induction fu163 with
                    | zero => intro τ163 _ _ _ _ _ h9; omega
                    | succ fu163 ih163 =>
                      intro τ163 v4 v5 rτ163 fτ163 hi163 hm163
                      unfold wl_X16_passEach_163
                      have eτ163_118 := fτ163.1 118 (by decide)
                      have jτ163 := fτ163.2.2.1
                      have pτ163 := fτ163.2.2.2
                      unfold w_X16_passEach_163
                      try simp only [forall_eq, rII, rIJ, rIP, rJJ, rJI, rJP, rPP, rPI, rPJ, g1, g2, g3, g4, g5, g6, g7, g8, Nat.reduceEqDiff, Nat.reduceAdd, false_and, and_false, true_and, and_true, reduceIte, nZ0, nZ1, eτ163_118.1, eτ163_118.2, fun a k => (jτ163 a k).1, fun a k => (jτ163 a k).2, pτ163]
                      obtain ⟨pt9, hi163⟩ := hi163
                      refine ⟨ja, by exact hj, hja, ?_⟩
                      refine ⟨by (first | omega | with_reducible assumption | (unfold rng; omega) | (unfold rng; (repeat' split) <;> omega) | grind), ?_⟩
                      split
                      · rename_i hc174
                        skip
                        unfold w_X16_passEach_243
                        try simp only [forall_eq, rII, rIJ, rIP, rJJ, rJI, rJP, rPP, rPI, rPJ, g1, g2, g3, g4, g5, g6, g7, g8, Nat.reduceEqDiff, Nat.reduceAdd, false_and, and_false, true_and, and_true, reduceIte, nZ0, nZ1, eτ163_118.1, eτ163_118.2, fun a k => (jτ163 a k).1, fun a k => (jτ163 a k).2, pτ163]
                        split
                        · rename_i hc245
                          skip
                          unfold w_X16_passEach_263
                          try simp only [forall_eq, rII, rIJ, rIP, rJJ, rJI, rJP, rPP, rPI, rPJ, g1, g2, g3, g4, g5, g6, g7, g8, Nat.reduceEqDiff, Nat.reduceAdd, false_and, and_false, true_and, and_true, reduceIte, nZ0, nZ1, eτ163_118.1, eτ163_118.2, fun a k => (jτ163 a k).1, fun a k => (jτ163 a k).2, pτ163]
                          refine ⟨by (first | omega | with_reducible assumption | (unfold rng; omega) | (unfold rng; (repeat' split) <;> omega) | grind), ?_⟩
                          refine ih7 _ _ ?_ ?_ ?_ ?_
                          · exact rτ163
                          · exact fτ163
                          · refine ⟨?_, ?_⟩; exact (by first | exact pt9 | exact PtI.fr (jx := jx) (K := [82]) (S := []) pt9 (by repeat (first | exact Fr.rf | assumption | refine Fr.aJ g ?_ (by decide) | refine Fr.aI g ?_ (by decide) | refine Fr.sI g ?_ (by decide) | refine Fr.sJ g ?_ (by decide))) (by decide) (by decide)); exact (by (first | omega | with_reducible assumption | (unfold rng; omega) | (unfold rng; (repeat' split) <;> omega) | grind))
                          · (try simp only [rII, rIJ, rIP, rJJ, rJI, rJP, rPP, rPI, rPJ, g1, g2, g3, g4, g5, g6, g7, g8, Nat.reduceEqDiff, Nat.reduceAdd, false_and, and_false, true_and, and_true, reduceIte, nZ0, nZ1, eτ163_118.1, eτ163_118.2, fun a k => (jτ163 a k).1, fun a k => (jτ163 a k).2, pτ163]) <;> (first | omega | with_reducible assumption | (unfold rng; omega) | (unfold rng; (repeat' split) <;> omega) | grind)
                        · rename_i hc245
                          skip
                          unfold w_X16_passEach_248
                          try simp only [forall_eq, rII, rIJ, rIP, rJJ, rJI, rJP, rPP, rPI, rPJ, g1, g2, g3, g4, g5, g6, g7, g8, Nat.reduceEqDiff, Nat.reduceAdd, false_and, and_false, true_and, and_true, reduceIte, nZ0, nZ1, eτ163_118.1, eτ163_118.2, fun a k => (jτ163 a k).1, fun a k => (jτ163 a k).2, pτ163]
                          refine ⟨by (first | omega | with_reducible assumption | (unfold rng; omega) | (unfold rng; (repeat' split) <;> omega) | grind), ?_⟩
                          refine s2_X16_pass (b3 := (ra 82)) (n3 := 16) g rτ163 rfl (Or.inl ⟨82, rfl, by decide⟩) (by (try simp only [rII, rIJ, rIP, rJJ, rJI, rJP, rPP, rPI, rPJ, g1, g2, g3, g4, g5, g6, g7, g8, Nat.reduceEqDiff, Nat.reduceAdd, false_and, and_false, true_and, and_true, reduceIte, nZ0, nZ1, eτ163_118.1, eτ163_118.2, fun a k => (jτ163 a k).1, fun a k => (jτ163 a k).2, pτ163]) <;> (first | omega | with_reducible assumption | (unfold rng; omega) | (unfold rng; (repeat' split) <;> omega) | grind)) (by (try simp only [rII, rIJ, rIP, rJJ, rJI, rJP, rPP, rPI, rPJ, g1, g2, g3, g4, g5, g6, g7, g8, Nat.reduceEqDiff, Nat.reduceAdd, false_and, and_false, true_and, and_true, reduceIte, nZ0, nZ1, eτ163_118.1, eτ163_118.2, fun a k => (jτ163 a k).1, fun a k => (jτ163 a k).2, pτ163]) <;> (first | omega | with_reducible assumption | (unfold rng; omega) | (unfold rng; (repeat' split) <;> omega) | grind)) (by first | exact pt9 | exact PtI.fr (jx := jx) (K := [82]) (S := []) pt9 (by repeat (first | exact Fr.rf | assumption | refine Fr.aJ g ?_ (by decide) | refine Fr.aI g ?_ (by decide) | refine Fr.sI g ?_ (by decide) | refine Fr.sJ g ?_ (by decide))) (by decide) (by decide)) hA (by (try simp only [rII, rIJ, rIP, rJJ, rJI, rJP, rPP, rPI, rPJ, g1, g2, g3, g4, g5, g6, g7, g8, Nat.reduceEqDiff, Nat.reduceAdd, false_and, and_false, true_and, and_true, reduceIte, nZ0, nZ1, eτ163_118.1, eτ163_118.2, fun a k => (jτ163 a k).1, fun a k => (jτ163 a k).2, pτ163]) <;> exact PtI.lo pt9 (by omega) (by omega)) (fun σ35 _ rσ35 fc p6 => ?_) (fun σx E rx fx px => hX _ _ rx (Fr.tr fτ163 (Fr.mor (fx) (by decide) (by decide))) px)
                          have fσ35 : Fr ra jx rm [20, 81, 82, 115, 116] [21, 117] σ σ35 := Fr.tr fτ163 (Fr.mor (fc) (by decide) (by decide))
                          have pt9 := p6.1
                          have eσ35_118 := fσ35.1 118 (by decide)
                          have jσ35 := fσ35.2.2.1
                          have pσ35 := fσ35.2.2.2
                          try simp only [forall_eq, rII, rIJ, rIP, rJJ, rJI, rJP, rPP, rPI, rPJ, g1, g2, g3, g4, g5, g6, g7, g8, Nat.reduceEqDiff, Nat.reduceAdd, false_and, and_false, true_and, and_true, reduceIte, nZ0, nZ1, eσ35_118.1, eσ35_118.2, fun a k => (jσ35 a k).1, fun a k => (jσ35 a k).2, pσ35]
                          unfold w_X16_passEach_263
                          try simp only [forall_eq, rII, rIJ, rIP, rJJ, rJI, rJP, rPP, rPI, rPJ, g1, g2, g3, g4, g5, g6, g7, g8, Nat.reduceEqDiff, Nat.reduceAdd, false_and, and_false, true_and, and_true, reduceIte, nZ0, nZ1, eσ35_118.1, eσ35_118.2, fun a k => (jσ35 a k).1, fun a k => (jσ35 a k).2, pσ35]
                          refine ⟨by (first | omega | with_reducible assumption | (unfold rng; omega) | (unfold rng; (repeat' split) <;> omega) | grind), ?_⟩
                          refine ih7 _ _ ?_ ?_ ?_ ?_
                          · exact rσ35
                          · exact fσ35
                          · refine ⟨?_, ?_⟩; exact (by first | exact pt9 | exact PtI.fr (jx := jx) (K := [82]) (S := []) pt9 (by repeat (first | exact Fr.rf | assumption | refine Fr.aJ g ?_ (by decide) | refine Fr.aI g ?_ (by decide) | refine Fr.sI g ?_ (by decide) | refine Fr.sJ g ?_ (by decide))) (by decide) (by decide)); exact (by (first | omega | with_reducible assumption | (unfold rng; omega) | (unfold rng; (repeat' split) <;> omega) | grind))
                          · (try simp only [rII, rIJ, rIP, rJJ, rJI, rJP, rPP, rPI, rPJ, g1, g2, g3, g4, g5, g6, g7, g8, Nat.reduceEqDiff, Nat.reduceAdd, false_and, and_false, true_and, and_true, reduceIte, nZ0, nZ1, eσ35_118.1, eσ35_118.2, fun a k => (jσ35 a k).1, fun a k => (jσ35 a k).2, pσ35]) <;> (first | omega | with_reducible assumption | (unfold rng; omega) | (unfold rng; (repeat' split) <;> omega) | grind)
                      · rename_i hc174
                        skip
                        unfold w_X16_passEach_177
                        try simp only [forall_eq, rII, rIJ, rIP, rJJ, rJI, rJP, rPP, rPI, rPJ, g1, g2, g3, g4, g5, g6, g7, g8, Nat.reduceEqDiff, Nat.reduceAdd, false_and, and_false, true_and, and_true, reduceIte, nZ0, nZ1, eτ163_118.1, eτ163_118.2, fun a k => (jτ163 a k).1, fun a k => (jτ163 a k).2, pτ163]
                        split
                        · rename_i hc179
                          skip
                          unfold w_X16_passEach_243
                          try simp only [forall_eq, rII, rIJ, rIP, rJJ, rJI, rJP, rPP, rPI, rPJ, g1, g2, g3, g4, g5, g6, g7, g8, Nat.reduceEqDiff, Nat.reduceAdd, false_and, and_false, true_and, and_true, reduceIte, nZ0, nZ1, eτ163_118.1, eτ163_118.2, fun a k => (jτ163 a k).1, fun a k => (jτ163 a k).2, pτ163]
                          rw [if_pos hc179]
                          unfold w_X16_passEach_263
                          try simp only [forall_eq, rII, rIJ, rIP, rJJ, rJI, rJP, rPP, rPI, rPJ, g1, g2, g3, g4, g5, g6, g7, g8, Nat.reduceEqDiff, Nat.reduceAdd, false_and, and_false, true_and, and_true, reduceIte, nZ0, nZ1, eτ163_118.1, eτ163_118.2, fun a k => (jτ163 a k).1, fun a k => (jτ163 a k).2, pτ163]
                          refine ⟨by (first | omega | with_reducible assumption | (unfold rng; omega) | (unfold rng; (repeat' split) <;> omega) | grind), ?_⟩
                          refine ih7 _ _ ?_ ?_ ?_ ?_
                          · exact rτ163
                          · exact fτ163
                          · refine ⟨?_, ?_⟩; exact (by first | exact pt9 | exact PtI.fr (jx := jx) (K := [82]) (S := []) pt9 (by repeat (first | exact Fr.rf | assumption | refine Fr.aJ g ?_ (by decide) | refine Fr.aI g ?_ (by decide) | refine Fr.sI g ?_ (by decide) | refine Fr.sJ g ?_ (by decide))) (by decide) (by decide)); exact (by (first | omega | with_reducible assumption | (unfold rng; omega) | (unfold rng; (repeat' split) <;> omega) | grind))
                          · (try simp only [rII, rIJ, rIP, rJJ, rJI, rJP, rPP, rPI, rPJ, g1, g2, g3, g4, g5, g6, g7, g8, Nat.reduceEqDiff, Nat.reduceAdd, false_and, and_false, true_and, and_true, reduceIte, nZ0, nZ1, eτ163_118.1, eτ163_118.2, fun a k => (jτ163 a k).1, fun a k => (jτ163 a k).2, pτ163]) <;> (first | omega | with_reducible assumption | (unfold rng; omega) | (unfold rng; (repeat' split) <;> omega) | grind)
                        · rename_i hc179
                          skip
                          unfold w_X16_passEach_182
                          try simp only [forall_eq, rII, rIJ, rIP, rJJ, rJI, rJP, rPP, rPI, rPJ, g1, g2, g3, g4, g5, g6, g7, g8, Nat.reduceEqDiff, Nat.reduceAdd, false_and, and_false, true_and, and_true, reduceIte, nZ0, nZ1, eτ163_118.1, eτ163_118.2, fun a k => (jτ163 a k).1, fun a k => (jτ163 a k).2, pτ163]
                          refine ⟨ja, by exact hj, hja, ?_⟩
                          refine ⟨by (first | omega | with_reducible assumption | (unfold rng; omega) | (unfold rng; (repeat' split) <;> omega) | grind), ?_⟩
                          refine ⟨by (first | omega | with_reducible assumption | (unfold rng; omega) | (unfold rng; (repeat' split) <;> omega) | grind), ?_⟩
                          refine ⟨by (first | omega | with_reducible assumption | (unfold rng; omega) | (unfold rng; (repeat' split) <;> omega) | grind), ?_⟩
                          refine ⟨by (first | omega | with_reducible assumption | (unfold rng; omega) | (unfold rng; (repeat' split) <;> omega) | grind), ?_⟩
                          have q7 := rσ.2.2.1 ja 13 (((8 * v1) + v5).toNat); simp only [rgJ] at q7
                          refine s_X16_worth (b5 := (ra 81)) (n5 := 8) g rτ163 rfl (Or.inl ⟨81, rfl, by decide⟩) (by first | exact hj | (rw [fτ163.2.2.2]; exact hj)) hja (by (try simp only [rII, rIJ, rIP, rJJ, rJI, rJP, rPP, rPI, rPJ, g1, g2, g3, g4, g5, g6, g7, g8, Nat.reduceEqDiff, Nat.reduceAdd, false_and, and_false, true_and, and_true, reduceIte, nZ0, nZ1, eτ163_118.1, eτ163_118.2, fun a k => (jτ163 a k).1, fun a k => (jτ163 a k).2, pτ163]) <;> first | exact PO.fr ((hk3 (by assumption)).2 v5 (by omega) (by omega)) hja fτ163 (by decide) | (have w8 := (hk3 (by assumption)).2 0 (by omega) (by omega); rw [show 8 * v1 + 0 = 8 * v1 by omega] at w8; exact PO.fr w8 hja fτ163 (by decide))) (by (try simp only [rII, rIJ, rIP, rJJ, rJI, rJP, rPP, rPI, rPJ, g1, g2, g3, g4, g5, g6, g7, g8, Nat.reduceEqDiff, Nat.reduceAdd, false_and, and_false, true_and, and_true, reduceIte, nZ0, nZ1, eτ163_118.1, eτ163_118.2, fun a k => (jτ163 a k).1, fun a k => (jτ163 a k).2, pτ163]) <;> (first | omega | with_reducible assumption | (unfold rng; omega) | (unfold rng; (repeat' split) <;> omega) | grind)) (by (try simp only [rII, rIJ, rIP, rJJ, rJI, rJP, rPP, rPI, rPJ, g1, g2, g3, g4, g5, g6, g7, g8, Nat.reduceEqDiff, Nat.reduceAdd, false_and, and_false, true_and, and_true, reduceIte, nZ0, nZ1, eτ163_118.1, eτ163_118.2, fun a k => (jτ163 a k).1, fun a k => (jτ163 a k).2, pτ163]) <;> (first | omega | with_reducible assumption | (unfold rng; omega) | (unfold rng; (repeat' split) <;> omega) | grind)) (fun σ37 r38 rσ37 fc p8 => ?_)
                          have fσ37 : Fr ra jx rm [20, 81, 82, 115, 116] [21, 117] σ σ37 := Fr.tr fτ163 (Fr.mor (fc) (by decide) (by decide))
                          have pt9 := PtI.fr (PtI.fr (jx := jx) (K := [82]) (S := []) pt9 (by repeat (first | exact Fr.rf | assumption | refine Fr.aJ g ?_ (by decide) | refine Fr.aI g ?_ (by decide) | refine Fr.sI g ?_ (by decide) | refine Fr.sJ g ?_ (by decide))) (by decide) (by decide)) fc (by decide) (by decide)
                          have eσ37_118 := fσ37.1 118 (by decide)
                          have jσ37 := fσ37.2.2.1
                          have pσ37 := fσ37.2.2.2
                          try simp only [forall_eq, rII, rIJ, rIP, rJJ, rJI, rJP, rPP, rPI, rPJ, g1, g2, g3, g4, g5, g6, g7, g8, Nat.reduceEqDiff, Nat.reduceAdd, false_and, and_false, true_and, and_true, reduceIte, nZ0, nZ1, eσ37_118.1, eσ37_118.2, fun a k => (jσ37 a k).1, fun a k => (jσ37 a k).2, pσ37]
                          refine ⟨by (first | omega | with_reducible assumption | (unfold rng; omega) | (unfold rng; (repeat' split) <;> omega) | grind), ?_⟩
                          have q9 := rσ37.2.1 21; simp only [rgS] at q9
                          split
                          · rename_i hc227
                            skip
                            unfold w_X16_passEach_234
                            try simp only [forall_eq, rII, rIJ, rIP, rJJ, rJI, rJP, rPP, rPI, rPJ, g1, g2, g3, g4, g5, g6, g7, g8, Nat.reduceEqDiff, Nat.reduceAdd, false_and, and_false, true_and, and_true, reduceIte, nZ0, nZ1, eσ37_118.1, eσ37_118.2, fun a k => (jσ37 a k).1, fun a k => (jσ37 a k).2, pσ37]
                            unfold w_X16_passEach_235
                            try simp only [forall_eq, rII, rIJ, rIP, rJJ, rJI, rJP, rPP, rPI, rPJ, g1, g2, g3, g4, g5, g6, g7, g8, Nat.reduceEqDiff, Nat.reduceAdd, false_and, and_false, true_and, and_true, reduceIte, nZ0, nZ1, eσ37_118.1, eσ37_118.2, fun a k => (jσ37 a k).1, fun a k => (jσ37 a k).2, pσ37]
                            refine ⟨by (first | omega | with_reducible assumption | (unfold rng; omega) | (unfold rng; (repeat' split) <;> omega) | grind), ?_⟩
                            refine ih163 _ _ _ ?_ ?_ ?_ ?_
                            · refine Rg.aJ g ?_ (by simp only [rlT]; first | with_reducible assumption | omega | exact Int64.toInt_le _ | (rw [Int64.toInt_ofInt_of_le (by omega) (by omega)]; omega) | grind); exact rσ37
                            · refine Fr.aJ g ?_ (by decide); exact fσ37
                            · refine ⟨?_, ?_⟩; exact (by first | exact pt9 | exact PtI.fr (jx := jx) (K := [82]) (S := []) pt9 (by repeat (first | exact Fr.rf | assumption | refine Fr.aJ g ?_ (by decide) | refine Fr.aI g ?_ (by decide) | refine Fr.sI g ?_ (by decide) | refine Fr.sJ g ?_ (by decide))) (by decide) (by decide)); exact (by (first | omega | with_reducible assumption | (unfold rng; omega) | (unfold rng; (repeat' split) <;> omega) | grind))
                            · (try simp only [rII, rIJ, rIP, rJJ, rJI, rJP, rPP, rPI, rPJ, g1, g2, g3, g4, g5, g6, g7, g8, Nat.reduceEqDiff, Nat.reduceAdd, false_and, and_false, true_and, and_true, reduceIte, nZ0, nZ1, eσ37_118.1, eσ37_118.2, fun a k => (jσ37 a k).1, fun a k => (jσ37 a k).2, pσ37]) <;> (first | omega | with_reducible assumption | (unfold rng; omega) | (unfold rng; (repeat' split) <;> omega) | grind)
                          · rename_i hc227
                            skip
                            unfold w_X16_passEach_230
                            try simp only [forall_eq, rII, rIJ, rIP, rJJ, rJI, rJP, rPP, rPI, rPJ, g1, g2, g3, g4, g5, g6, g7, g8, Nat.reduceEqDiff, Nat.reduceAdd, false_and, and_false, true_and, and_true, reduceIte, nZ0, nZ1, eσ37_118.1, eσ37_118.2, fun a k => (jσ37 a k).1, fun a k => (jσ37 a k).2, pσ37]
                            unfold w_X16_passEach_235
                            try simp only [forall_eq, rII, rIJ, rIP, rJJ, rJI, rJP, rPP, rPI, rPJ, g1, g2, g3, g4, g5, g6, g7, g8, Nat.reduceEqDiff, Nat.reduceAdd, false_and, and_false, true_and, and_true, reduceIte, nZ0, nZ1, eσ37_118.1, eσ37_118.2, fun a k => (jσ37 a k).1, fun a k => (jσ37 a k).2, pσ37]
                            refine ⟨by (first | omega | with_reducible assumption | (unfold rng; omega) | (unfold rng; (repeat' split) <;> omega) | grind), ?_⟩
                            refine ih163 _ _ _ ?_ ?_ ?_ ?_
                            · refine Rg.aJ g ?_ (by simp only [rlT]; first | with_reducible assumption | omega | exact Int64.toInt_le _ | (rw [Int64.toInt_ofInt_of_le (by omega) (by omega)]; omega) | grind); exact rσ37
                            · refine Fr.aJ g ?_ (by decide); exact fσ37
                            · refine ⟨?_, ?_⟩; exact (by first | exact pt9 | exact PtI.fr (jx := jx) (K := [82]) (S := []) pt9 (by repeat (first | exact Fr.rf | assumption | refine Fr.aJ g ?_ (by decide) | refine Fr.aI g ?_ (by decide) | refine Fr.sI g ?_ (by decide) | refine Fr.sJ g ?_ (by decide))) (by decide) (by decide)); exact (by (first | omega | with_reducible assumption | (unfold rng; omega) | (unfold rng; (repeat' split) <;> omega) | grind))
                            · (try simp only [rII, rIJ, rIP, rJJ, rJI, rJP, rPP, rPI, rPJ, g1, g2, g3, g4, g5, g6, g7, g8, Nat.reduceEqDiff, Nat.reduceAdd, false_and, and_false, true_and, and_true, reduceIte, nZ0, nZ1, eσ37_118.1, eσ37_118.2, fun a k => (jσ37 a k).1, fun a k => (jσ37 a k).2, pσ37]) <;> (first | omega | with_reducible assumption | (unfold rng; omega) | (unfold rng; (repeat' split) <;> omega) | grind)
                  refine ⟨_, L163 _ _ _ _ ?_ ?_ ?_ (Nat.lt_succ_self _)⟩
                  · exact rτ139
                  · exact fτ139
                  · refine ⟨?_, ?_⟩; exact (by first | exact pt9 | exact PtI.fr (jx := jx) (K := [82]) (S := []) pt9 (by repeat (first | exact Fr.rf | assumption | refine Fr.aJ g ?_ (by decide) | refine Fr.aI g ?_ (by decide) | refine Fr.sI g ?_ (by decide) | refine Fr.sJ g ?_ (by decide))) (by decide) (by decide)); exact (by (first | omega | with_reducible assumption | (unfold rng; omega) | (unfold rng; (repeat' split) <;> omega) | grind))
                · rename_i hc143
                  skip
                  unfold w_X16_passEach_146
                  try simp only [forall_eq, rII, rIJ, rIP, rJJ, rJI, rJP, rPP, rPI, rPJ, g1, g2, g3, g4, g5, g6, g7, g8, Nat.reduceEqDiff, Nat.reduceAdd, false_and, and_false, true_and, and_true, reduceIte, nZ0, nZ1, eτ139_118.1, eτ139_118.2, fun a k => (jτ139 a k).1, fun a k => (jτ139 a k).2, pτ139]
                  refine ⟨by (first | omega | with_reducible assumption | (unfold rng; omega) | (unfold rng; (repeat' split) <;> omega) | grind), ?_⟩
                  refine ⟨by (first | omega | with_reducible assumption | (unfold rng; omega) | (unfold rng; (repeat' split) <;> omega) | grind), ?_⟩
                  refine ih139 _ _ ?_ ?_ ?_ ?_
                  · refine Rg.aJ g ?_ (by simp only [rlT]; first | with_reducible assumption | omega | exact Int64.toInt_le _ | (rw [Int64.toInt_ofInt_of_le (by omega) (by omega)]; omega) | grind); exact rτ139
                  · refine Fr.aJ g ?_ (by decide); exact fτ139
                  · refine ⟨?_, ?_⟩; exact (by first | exact pt9 | exact PtI.fr (jx := jx) (K := [82]) (S := []) pt9 (by repeat (first | exact Fr.rf | assumption | refine Fr.aJ g ?_ (by decide) | refine Fr.aI g ?_ (by decide) | refine Fr.sI g ?_ (by decide) | refine Fr.sJ g ?_ (by decide))) (by decide) (by decide)); exact (by (first | omega | with_reducible assumption | (unfold rng; omega) | (unfold rng; (repeat' split) <;> omega) | grind))
                  · (try simp only [rII, rIJ, rIP, rJJ, rJI, rJP, rPP, rPI, rPJ, g1, g2, g3, g4, g5, g6, g7, g8, Nat.reduceEqDiff, Nat.reduceAdd, false_and, and_false, true_and, and_true, reduceIte, nZ0, nZ1, eτ139_118.1, eτ139_118.2, fun a k => (jτ139 a k).1, fun a k => (jτ139 a k).2, pτ139]) <;> (first | omega | with_reducible assumption | (unfold rng; omega) | (unfold rng; (repeat' split) <;> omega) | grind)
            refine ⟨_, L139 _ _ _ ?_ ?_ ?_ (Nat.lt_succ_self _)⟩
            · exact rσ31
            · exact fσ31
            · refine ⟨?_, ?_⟩; exact (by first | exact pt9 | exact PtI.fr (jx := jx) (K := [82]) (S := []) pt9 (by repeat (first | exact Fr.rf | assumption | refine Fr.aJ g ?_ (by decide) | refine Fr.aI g ?_ (by decide) | refine Fr.sI g ?_ (by decide) | refine Fr.sJ g ?_ (by decide))) (by decide) (by decide)); exact (by (first | omega | with_reducible assumption | (unfold rng; omega) | (unfold rng; (repeat' split) <;> omega) | grind))
          · rename_i hc65
            skip
            unfold w_X16_passEach_68
            try simp only [forall_eq, rII, rIJ, rIP, rJJ, rJI, rJP, rPP, rPI, rPJ, g1, g2, g3, g4, g5, g6, g7, g8, Nat.reduceEqDiff, Nat.reduceAdd, false_and, and_false, true_and, and_true, reduceIte, nZ0, nZ1, eσ31_118.1, eσ31_118.2, fun a k => (jσ31 a k).1, fun a k => (jσ31 a k).2, pσ31]
            refine ⟨ja, by exact hj, hja, ?_⟩
            refine ⟨by (first | omega | with_reducible assumption | (unfold rng; omega) | (unfold rng; (repeat' split) <;> omega) | grind), ?_⟩
            refine ⟨by (first | omega | with_reducible assumption | (unfold rng; omega) | (unfold rng; (repeat' split) <;> omega) | grind), ?_⟩
            refine ⟨by (first | omega | with_reducible assumption | (unfold rng; omega) | (unfold rng; (repeat' split) <;> omega) | grind), ?_⟩
            have q10 := rσ.2.2.1 ja 13 ((8 * v1).toNat); simp only [rgJ] at q10
            refine s_X16_worth (b5 := (ra 81)) (n5 := 8) g rσ31 rfl (Or.inl ⟨81, rfl, by decide⟩) (by first | exact hj | (rw [fσ31.2.2.2]; exact hj)) hja (by (try simp only [rII, rIJ, rIP, rJJ, rJI, rJP, rPP, rPI, rPJ, g1, g2, g3, g4, g5, g6, g7, g8, Nat.reduceEqDiff, Nat.reduceAdd, false_and, and_false, true_and, and_true, reduceIte, nZ0, nZ1, eσ31_118.1, eσ31_118.2, fun a k => (jσ31 a k).1, fun a k => (jσ31 a k).2, pσ31]) <;> first | exact PO.fr ((hk3 (by assumption)).2 v5 (by omega) (by omega)) hja fσ31 (by decide) | (have w8 := (hk3 (by assumption)).2 0 (by omega) (by omega); rw [show 8 * v1 + 0 = 8 * v1 by omega] at w8; exact PO.fr w8 hja fσ31 (by decide))) (by (try simp only [rII, rIJ, rIP, rJJ, rJI, rJP, rPP, rPI, rPJ, g1, g2, g3, g4, g5, g6, g7, g8, Nat.reduceEqDiff, Nat.reduceAdd, false_and, and_false, true_and, and_true, reduceIte, nZ0, nZ1, eσ31_118.1, eσ31_118.2, fun a k => (jσ31 a k).1, fun a k => (jσ31 a k).2, pσ31]) <;> (first | omega | with_reducible assumption | (unfold rng; omega) | (unfold rng; (repeat' split) <;> omega) | grind)) (by (try simp only [rII, rIJ, rIP, rJJ, rJI, rJP, rPP, rPI, rPJ, g1, g2, g3, g4, g5, g6, g7, g8, Nat.reduceEqDiff, Nat.reduceAdd, false_and, and_false, true_and, and_true, reduceIte, nZ0, nZ1, eσ31_118.1, eσ31_118.2, fun a k => (jσ31 a k).1, fun a k => (jσ31 a k).2, pσ31]) <;> (first | omega | with_reducible assumption | (unfold rng; omega) | (unfold rng; (repeat' split) <;> omega) | grind)) (fun σ42 r43 rσ42 fc p11 => ?_)
            have fσ42 : Fr ra jx rm [20, 81, 82, 115, 116] [21, 117] σ σ42 := Fr.tr fσ31 (Fr.mor (fc) (by decide) (by decide))
            have pt9 := PtI.fr (PtI.fr (jx := jx) (K := [82]) (S := []) pt9 (by repeat (first | exact Fr.rf | assumption | refine Fr.aJ g ?_ (by decide) | refine Fr.aI g ?_ (by decide) | refine Fr.sI g ?_ (by decide) | refine Fr.sJ g ?_ (by decide))) (by decide) (by decide)) fc (by decide) (by decide)
            have eσ42_118 := fσ42.1 118 (by decide)
            have jσ42 := fσ42.2.2.1
            have pσ42 := fσ42.2.2.2
            try simp only [forall_eq, rII, rIJ, rIP, rJJ, rJI, rJP, rPP, rPI, rPJ, g1, g2, g3, g4, g5, g6, g7, g8, Nat.reduceEqDiff, Nat.reduceAdd, false_and, and_false, true_and, and_true, reduceIte, nZ0, nZ1, eσ42_118.1, eσ42_118.2, fun a k => (jσ42 a k).1, fun a k => (jσ42 a k).2, pσ42]
            have q12 := rσ42.2.1 21; simp only [rgS] at q12
            split
            · rename_i hc105
              skip
              unfold w_X16_passEach_130
              try simp only [forall_eq, rII, rIJ, rIP, rJJ, rJI, rJP, rPP, rPI, rPJ, g1, g2, g3, g4, g5, g6, g7, g8, Nat.reduceEqDiff, Nat.reduceAdd, false_and, and_false, true_and, and_true, reduceIte, nZ0, nZ1, eσ42_118.1, eσ42_118.2, fun a k => (jσ42 a k).1, fun a k => (jσ42 a k).2, pσ42]
              unfold w_X16_passEach_263
              try simp only [forall_eq, rII, rIJ, rIP, rJJ, rJI, rJP, rPP, rPI, rPJ, g1, g2, g3, g4, g5, g6, g7, g8, Nat.reduceEqDiff, Nat.reduceAdd, false_and, and_false, true_and, and_true, reduceIte, nZ0, nZ1, eσ42_118.1, eσ42_118.2, fun a k => (jσ42 a k).1, fun a k => (jσ42 a k).2, pσ42]
              refine ⟨by (first | omega | with_reducible assumption | (unfold rng; omega) | (unfold rng; (repeat' split) <;> omega) | grind), ?_⟩
              refine ih7 _ _ ?_ ?_ ?_ ?_
              · exact rσ42
              · exact fσ42
              · refine ⟨?_, ?_⟩; exact (by first | exact pt9 | exact PtI.fr (jx := jx) (K := [82]) (S := []) pt9 (by repeat (first | exact Fr.rf | assumption | refine Fr.aJ g ?_ (by decide) | refine Fr.aI g ?_ (by decide) | refine Fr.sI g ?_ (by decide) | refine Fr.sJ g ?_ (by decide))) (by decide) (by decide)); exact (by (first | omega | with_reducible assumption | (unfold rng; omega) | (unfold rng; (repeat' split) <;> omega) | grind))
              · (try simp only [rII, rIJ, rIP, rJJ, rJI, rJP, rPP, rPI, rPJ, g1, g2, g3, g4, g5, g6, g7, g8, Nat.reduceEqDiff, Nat.reduceAdd, false_and, and_false, true_and, and_true, reduceIte, nZ0, nZ1, eσ42_118.1, eσ42_118.2, fun a k => (jσ42 a k).1, fun a k => (jσ42 a k).2, pσ42]) <;> (first | omega | with_reducible assumption | (unfold rng; omega) | (unfold rng; (repeat' split) <;> omega) | grind)
            · rename_i hc105
              skip
              unfold w_X16_passEach_108
              try simp only [forall_eq, rII, rIJ, rIP, rJJ, rJI, rJP, rPP, rPI, rPJ, g1, g2, g3, g4, g5, g6, g7, g8, Nat.reduceEqDiff, Nat.reduceAdd, false_and, and_false, true_and, and_true, reduceIte, nZ0, nZ1, eσ42_118.1, eσ42_118.2, fun a k => (jσ42 a k).1, fun a k => (jσ42 a k).2, pσ42]
              split
              · rename_i hc112
                skip
                unfold w_X16_passEach_130
                try simp only [forall_eq, rII, rIJ, rIP, rJJ, rJI, rJP, rPP, rPI, rPJ, g1, g2, g3, g4, g5, g6, g7, g8, Nat.reduceEqDiff, Nat.reduceAdd, false_and, and_false, true_and, and_true, reduceIte, nZ0, nZ1, eσ42_118.1, eσ42_118.2, fun a k => (jσ42 a k).1, fun a k => (jσ42 a k).2, pσ42]
                unfold w_X16_passEach_263
                try simp only [forall_eq, rII, rIJ, rIP, rJJ, rJI, rJP, rPP, rPI, rPJ, g1, g2, g3, g4, g5, g6, g7, g8, Nat.reduceEqDiff, Nat.reduceAdd, false_and, and_false, true_and, and_true, reduceIte, nZ0, nZ1, eσ42_118.1, eσ42_118.2, fun a k => (jσ42 a k).1, fun a k => (jσ42 a k).2, pσ42]
                refine ⟨by (first | omega | with_reducible assumption | (unfold rng; omega) | (unfold rng; (repeat' split) <;> omega) | grind), ?_⟩
                refine ih7 _ _ ?_ ?_ ?_ ?_
                · exact rσ42
                · exact fσ42
                · refine ⟨?_, ?_⟩; exact (by first | exact pt9 | exact PtI.fr (jx := jx) (K := [82]) (S := []) pt9 (by repeat (first | exact Fr.rf | assumption | refine Fr.aJ g ?_ (by decide) | refine Fr.aI g ?_ (by decide) | refine Fr.sI g ?_ (by decide) | refine Fr.sJ g ?_ (by decide))) (by decide) (by decide)); exact (by (first | omega | with_reducible assumption | (unfold rng; omega) | (unfold rng; (repeat' split) <;> omega) | grind))
                · (try simp only [rII, rIJ, rIP, rJJ, rJI, rJP, rPP, rPI, rPJ, g1, g2, g3, g4, g5, g6, g7, g8, Nat.reduceEqDiff, Nat.reduceAdd, false_and, and_false, true_and, and_true, reduceIte, nZ0, nZ1, eσ42_118.1, eσ42_118.2, fun a k => (jσ42 a k).1, fun a k => (jσ42 a k).2, pσ42]) <;> (first | omega | with_reducible assumption | (unfold rng; omega) | (unfold rng; (repeat' split) <;> omega) | grind)
              · rename_i hc112
                skip
                unfold w_X16_passEach_115
                try simp only [forall_eq, rII, rIJ, rIP, rJJ, rJI, rJP, rPP, rPI, rPJ, g1, g2, g3, g4, g5, g6, g7, g8, Nat.reduceEqDiff, Nat.reduceAdd, false_and, and_false, true_and, and_true, reduceIte, nZ0, nZ1, eσ42_118.1, eσ42_118.2, fun a k => (jσ42 a k).1, fun a k => (jσ42 a k).2, pσ42]
                refine ⟨by (first | omega | with_reducible assumption | (unfold rng; omega) | (unfold rng; (repeat' split) <;> omega) | grind), ?_⟩
                refine s2_X16_pass (b3 := (ra 81)) (n3 := 8) g rσ42 rfl (Or.inl ⟨81, rfl, by decide⟩) (by (try simp only [rII, rIJ, rIP, rJJ, rJI, rJP, rPP, rPI, rPJ, g1, g2, g3, g4, g5, g6, g7, g8, Nat.reduceEqDiff, Nat.reduceAdd, false_and, and_false, true_and, and_true, reduceIte, nZ0, nZ1, eσ42_118.1, eσ42_118.2, fun a k => (jσ42 a k).1, fun a k => (jσ42 a k).2, pσ42]) <;> (first | omega | with_reducible assumption | (unfold rng; omega) | (unfold rng; (repeat' split) <;> omega) | grind)) (by (try simp only [rII, rIJ, rIP, rJJ, rJI, rJP, rPP, rPI, rPJ, g1, g2, g3, g4, g5, g6, g7, g8, Nat.reduceEqDiff, Nat.reduceAdd, false_and, and_false, true_and, and_true, reduceIte, nZ0, nZ1, eσ42_118.1, eσ42_118.2, fun a k => (jσ42 a k).1, fun a k => (jσ42 a k).2, pσ42]) <;> (first | omega | with_reducible assumption | (unfold rng; omega) | (unfold rng; (repeat' split) <;> omega) | grind)) (by first | exact pt9 | exact PtI.fr (jx := jx) (K := [82]) (S := []) pt9 (by repeat (first | exact Fr.rf | assumption | refine Fr.aJ g ?_ (by decide) | refine Fr.aI g ?_ (by decide) | refine Fr.sI g ?_ (by decide) | refine Fr.sJ g ?_ (by decide))) (by decide) (by decide)) hA (by (try simp only [rII, rIJ, rIP, rJJ, rJI, rJP, rPP, rPI, rPJ, g1, g2, g3, g4, g5, g6, g7, g8, Nat.reduceEqDiff, Nat.reduceAdd, false_and, and_false, true_and, and_true, reduceIte, nZ0, nZ1, eσ42_118.1, eσ42_118.2, fun a k => (jσ42 a k).1, fun a k => (jσ42 a k).2, pσ42]) <;> exact PtI.lo pt9 (by omega) (by omega)) (fun σ44 _ rσ44 fc p13 => ?_) (fun σx E rx fx px => hX _ _ rx (Fr.tr fσ42 (Fr.mor (fx) (by decide) (by decide))) px)
                have fσ44 : Fr ra jx rm [20, 81, 82, 115, 116] [21, 117] σ σ44 := Fr.tr fσ42 (Fr.mor (fc) (by decide) (by decide))
                have pt9 := p13.1
                have eσ44_118 := fσ44.1 118 (by decide)
                have jσ44 := fσ44.2.2.1
                have pσ44 := fσ44.2.2.2
                try simp only [forall_eq, rII, rIJ, rIP, rJJ, rJI, rJP, rPP, rPI, rPJ, g1, g2, g3, g4, g5, g6, g7, g8, Nat.reduceEqDiff, Nat.reduceAdd, false_and, and_false, true_and, and_true, reduceIte, nZ0, nZ1, eσ44_118.1, eσ44_118.2, fun a k => (jσ44 a k).1, fun a k => (jσ44 a k).2, pσ44]
                unfold w_X16_passEach_130
                try simp only [forall_eq, rII, rIJ, rIP, rJJ, rJI, rJP, rPP, rPI, rPJ, g1, g2, g3, g4, g5, g6, g7, g8, Nat.reduceEqDiff, Nat.reduceAdd, false_and, and_false, true_and, and_true, reduceIte, nZ0, nZ1, eσ44_118.1, eσ44_118.2, fun a k => (jσ44 a k).1, fun a k => (jσ44 a k).2, pσ44]
                unfold w_X16_passEach_263
                try simp only [forall_eq, rII, rIJ, rIP, rJJ, rJI, rJP, rPP, rPI, rPJ, g1, g2, g3, g4, g5, g6, g7, g8, Nat.reduceEqDiff, Nat.reduceAdd, false_and, and_false, true_and, and_true, reduceIte, nZ0, nZ1, eσ44_118.1, eσ44_118.2, fun a k => (jσ44 a k).1, fun a k => (jσ44 a k).2, pσ44]
                refine ⟨by (first | omega | with_reducible assumption | (unfold rng; omega) | (unfold rng; (repeat' split) <;> omega) | grind), ?_⟩
                refine ih7 _ _ ?_ ?_ ?_ ?_
                · exact rσ44
                · exact fσ44
                · refine ⟨?_, ?_⟩; exact (by first | exact pt9 | exact PtI.fr (jx := jx) (K := [82]) (S := []) pt9 (by repeat (first | exact Fr.rf | assumption | refine Fr.aJ g ?_ (by decide) | refine Fr.aI g ?_ (by decide) | refine Fr.sI g ?_ (by decide) | refine Fr.sJ g ?_ (by decide))) (by decide) (by decide)); exact (by (first | omega | with_reducible assumption | (unfold rng; omega) | (unfold rng; (repeat' split) <;> omega) | grind))
                · (try simp only [rII, rIJ, rIP, rJJ, rJI, rJP, rPP, rPI, rPJ, g1, g2, g3, g4, g5, g6, g7, g8, Nat.reduceEqDiff, Nat.reduceAdd, false_and, and_false, true_and, and_true, reduceIte, nZ0, nZ1, eσ44_118.1, eσ44_118.2, fun a k => (jσ44 a k).1, fun a k => (jσ44 a k).2, pσ44]) <;> (first | omega | with_reducible assumption | (unfold rng; omega) | (unfold rng; (repeat' split) <;> omega) | grind)
        · rename_i hc34
          skip
          unfold w_X16_passEach_37
          try simp only [forall_eq, rII, rIJ, rIP, rJJ, rJI, rJP, rPP, rPI, rPJ, g1, g2, g3, g4, g5, g6, g7, g8, Nat.reduceEqDiff, Nat.reduceAdd, false_and, and_false, true_and, and_true, reduceIte, nZ0, nZ1, eσ31_118.1, eσ31_118.2, fun a k => (jσ31 a k).1, fun a k => (jσ31 a k).2, pσ31]
          refine ⟨by (first | omega | with_reducible assumption | (unfold rng; omega) | (unfold rng; (repeat' split) <;> omega) | grind), ?_⟩
          refine s2_X16_pass (b3 := (ra 81)) (n3 := 8) g rσ31 rfl (Or.inl ⟨81, rfl, by decide⟩) (by (try simp only [rII, rIJ, rIP, rJJ, rJI, rJP, rPP, rPI, rPJ, g1, g2, g3, g4, g5, g6, g7, g8, Nat.reduceEqDiff, Nat.reduceAdd, false_and, and_false, true_and, and_true, reduceIte, nZ0, nZ1, eσ31_118.1, eσ31_118.2, fun a k => (jσ31 a k).1, fun a k => (jσ31 a k).2, pσ31]) <;> (first | omega | with_reducible assumption | (unfold rng; omega) | (unfold rng; (repeat' split) <;> omega) | grind)) (by (try simp only [rII, rIJ, rIP, rJJ, rJI, rJP, rPP, rPI, rPJ, g1, g2, g3, g4, g5, g6, g7, g8, Nat.reduceEqDiff, Nat.reduceAdd, false_and, and_false, true_and, and_true, reduceIte, nZ0, nZ1, eσ31_118.1, eσ31_118.2, fun a k => (jσ31 a k).1, fun a k => (jσ31 a k).2, pσ31]) <;> (first | omega | with_reducible assumption | (unfold rng; omega) | (unfold rng; (repeat' split) <;> omega) | grind)) (by first | exact pt9 | exact PtI.fr (jx := jx) (K := [82]) (S := []) pt9 (by repeat (first | exact Fr.rf | assumption | refine Fr.aJ g ?_ (by decide) | refine Fr.aI g ?_ (by decide) | refine Fr.sI g ?_ (by decide) | refine Fr.sJ g ?_ (by decide))) (by decide) (by decide)) hA (by (try simp only [rII, rIJ, rIP, rJJ, rJI, rJP, rPP, rPI, rPJ, g1, g2, g3, g4, g5, g6, g7, g8, Nat.reduceEqDiff, Nat.reduceAdd, false_and, and_false, true_and, and_true, reduceIte, nZ0, nZ1, eσ31_118.1, eσ31_118.2, fun a k => (jσ31 a k).1, fun a k => (jσ31 a k).2, pσ31]) <;> exact PtI.lo pt9 (by omega) (by omega)) (fun σ45 _ rσ45 fc p14 => ?_) (fun σx E rx fx px => hX _ _ rx (Fr.tr fσ31 (Fr.mor (fx) (by decide) (by decide))) px)
          have fσ45 : Fr ra jx rm [20, 81, 82, 115, 116] [21, 117] σ σ45 := Fr.tr fσ31 (Fr.mor (fc) (by decide) (by decide))
          have pt9 := p14.1
          have eσ45_118 := fσ45.1 118 (by decide)
          have jσ45 := fσ45.2.2.1
          have pσ45 := fσ45.2.2.2
          try simp only [forall_eq, rII, rIJ, rIP, rJJ, rJI, rJP, rPP, rPI, rPJ, g1, g2, g3, g4, g5, g6, g7, g8, Nat.reduceEqDiff, Nat.reduceAdd, false_and, and_false, true_and, and_true, reduceIte, nZ0, nZ1, eσ45_118.1, eσ45_118.2, fun a k => (jσ45 a k).1, fun a k => (jσ45 a k).2, pσ45]
          unfold w_X16_passEach_263
          try simp only [forall_eq, rII, rIJ, rIP, rJJ, rJI, rJP, rPP, rPI, rPJ, g1, g2, g3, g4, g5, g6, g7, g8, Nat.reduceEqDiff, Nat.reduceAdd, false_and, and_false, true_and, and_true, reduceIte, nZ0, nZ1, eσ45_118.1, eσ45_118.2, fun a k => (jσ45 a k).1, fun a k => (jσ45 a k).2, pσ45]
          refine ⟨by (first | omega | with_reducible assumption | (unfold rng; omega) | (unfold rng; (repeat' split) <;> omega) | grind), ?_⟩
          refine ih7 _ _ ?_ ?_ ?_ ?_
          · exact rσ45
          · exact fσ45
          · refine ⟨?_, ?_⟩; exact (by first | exact pt9 | exact PtI.fr (jx := jx) (K := [82]) (S := []) pt9 (by repeat (first | exact Fr.rf | assumption | refine Fr.aJ g ?_ (by decide) | refine Fr.aI g ?_ (by decide) | refine Fr.sI g ?_ (by decide) | refine Fr.sJ g ?_ (by decide))) (by decide) (by decide)); exact (by (first | omega | with_reducible assumption | (unfold rng; omega) | (unfold rng; (repeat' split) <;> omega) | grind))
          · (try simp only [rII, rIJ, rIP, rJJ, rJI, rJP, rPP, rPI, rPJ, g1, g2, g3, g4, g5, g6, g7, g8, Nat.reduceEqDiff, Nat.reduceAdd, false_and, and_false, true_and, and_true, reduceIte, nZ0, nZ1, eσ45_118.1, eσ45_118.2, fun a k => (jσ45 a k).1, fun a k => (jσ45 a k).2, pσ45]) <;> (first | omega | with_reducible assumption | (unfold rng; omega) | (unfold rng; (repeat' split) <;> omega) | grind)
  refine ⟨_, L7 _ _ _ ?_ ?_ ?_ (Nat.lt_succ_self _)⟩
  · exact rσ
  · exact fσ
  · refine ⟨?_, ?_⟩; exact (by first | exact pt9 | exact PtI.fr (jx := jx) (K := [82]) (S := []) pt9 (by repeat (first | exact Fr.rf | assumption | refine Fr.aJ g ?_ (by decide) | refine Fr.aI g ?_ (by decide) | refine Fr.sI g ?_ (by decide) | refine Fr.sJ g ?_ (by decide))) (by decide) (by decide)); exact (by (first | omega | with_reducible assumption | (unfold rng; omega) | (unfold rng; (repeat' split) <;> omega) | grind))
set_option maxHeartbeats 4000000 in
theorem s2_X16_passJoin {ra : Nat → Nat} {jx : Nat → Nat → Nat} {rm : Nat} {ja : Nat} {b : Int} {A : Int} (g : Geo ra jx rm) {σ : Sg} {v1 : Int} {v2 : Int} {v3 : Int} (rσ : Rg ra jx rm σ) (hj : gP σ rm 17 = some ja) (hja : ja = ra 15 ∨ ja = ra 16) (h1 : 0 ≤ v1 ∧ v1 < 16) (h2 : 0 ≤ v2 ∧ v2 < 16) (h3 : 0 ≤ v3 ∧ v3 < 16) (hf : 0 ≤ gI σ (jx ja 4) v1.toNat) (hs : 0 ≤ gI σ (jx ja 5) v1.toNat) (hpt : PtI ra rm σ b A) (hA : 1000000 ≤ A ∧ A ≤ 2000000) (hin_v2 : gI σ (ra 118) (v2 + 1).toNat ≤ b) (hin_v3 : gI σ (ra 118) (v3 + 1).toNat ≤ b) {Q : Sg → Unit → Prop} {X : Sg → String → Prop} (hQ : ∀ (σ' : Sg) (r : Unit), Rg ra jx rm σ' → Fr ra jx rm [82, 115, 116] [117] σ σ' → (PtI ra rm σ' b A ∧ (True)) → Q σ' r) (hX : ∀ (σ' : Sg) (E : String), Rg ra jx rm σ' → Fr ra jx rm [82, 115, 116] [117] σ σ' → (E = "StreamHouseModel$Broken") → X σ' E) : wp_X16_passJoin ra jx rm v1 v2 v3 σ Q X := by
  obtain ⟨g1, g2, g3, g4, g5, g6, g7, g8⟩ := id g
  have fσ : Fr ra jx rm [82, 115, 116] [117] σ σ := Fr.rf
  have pt9 := hpt
  unfold wp_X16_passJoin
  unfold w_X16_passJoin_0
  try simp only [forall_eq, rII, rIJ, rIP, rJJ, rJI, rJP, rPP, rPI, rPJ, g1, g2, g3, g4, g5, g6, g7, g8, Nat.reduceEqDiff, Nat.reduceAdd, false_and, and_false, true_and, and_true, reduceIte, nZ0, nZ1]
  refine ⟨by (first | omega | with_reducible assumption | (unfold rng; omega) | (unfold rng; (repeat' split) <;> omega) | grind), ?_⟩
  have q1 := rσ.1 118 (v2.toNat); simp only [rgT] at q1
  have L8 : ∀ (fu8 : Nat) (τ8 : Sg) (v4 : Int), Rg ra jx rm τ8 → Fr ra jx rm [82, 115, 116] [117] σ τ8 → (PtI ra rm τ8 b A ∧ (0 ≤ v4)) → ((4000 - v4).toNat) < fu8 → wl_X16_passJoin_8 ra jx rm Q X fu8 τ8 v1 v2 v3 v4 := by
    intro fu8
    induction fu8 with
    | zero => intro τ8 _ _ _ _ h9; omega
    | succ fu8 ih8 =>
      intro τ8 v4 rτ8 fτ8 hi8 hm8
      unfold wl_X16_passJoin_8
      have eτ8_118 := fτ8.1 118 (by decide)
      have jτ8 := fτ8.2.2.1
      have pτ8 := fτ8.2.2.2
      unfold w_X16_passJoin_8
      try simp only [forall_eq, rII, rIJ, rIP, rJJ, rJI, rJP, rPP, rPI, rPJ, g1, g2, g3, g4, g5, g6, g7, g8, Nat.reduceEqDiff, Nat.reduceAdd, false_and, and_false, true_and, and_true, reduceIte, nZ0, nZ1, eτ8_118.1, eτ8_118.2, fun a k => (jτ8 a k).1, fun a k => (jτ8 a k).2, pτ8]
      obtain ⟨pt9, hi8⟩ := hi8
      refine ⟨by (first | omega | with_reducible assumption | (unfold rng; omega) | (unfold rng; (repeat' split) <;> omega) | grind), ?_⟩
      refine ⟨by (first | omega | with_reducible assumption | (unfold rng; omega) | (unfold rng; (repeat' split) <;> omega) | grind), ?_⟩
      have q2 := rσ.1 118 ((v2 + 1).toNat); simp only [rgT] at q2
      split
      · rename_i hc18
        skip
        unfold w_X16_passJoin_172
        try simp only [forall_eq, rII, rIJ, rIP, rJJ, rJI, rJP, rPP, rPI, rPJ, g1, g2, g3, g4, g5, g6, g7, g8, Nat.reduceEqDiff, Nat.reduceAdd, false_and, and_false, true_and, and_true, reduceIte, nZ0, nZ1, eτ8_118.1, eτ8_118.2, fun a k => (jτ8 a k).1, fun a k => (jτ8 a k).2, pτ8]
        refine hQ _ _ ?_ ?_ ?_
        · exact rτ8
        · exact fτ8
        · refine ⟨(by first | exact pt9), ?_⟩; first | trivial | (first | omega | with_reducible assumption | (unfold rng; omega) | (unfold rng; (repeat' split) <;> omega) | grind)
      · rename_i hc18
        skip
        unfold w_X16_passJoin_21
        try simp only [forall_eq, rII, rIJ, rIP, rJJ, rJI, rJP, rPP, rPI, rPJ, g1, g2, g3, g4, g5, g6, g7, g8, Nat.reduceEqDiff, Nat.reduceAdd, false_and, and_false, true_and, and_true, reduceIte, nZ0, nZ1, eτ8_118.1, eτ8_118.2, fun a k => (jτ8 a k).1, fun a k => (jτ8 a k).2, pτ8]
        refine ⟨by (first | omega | with_reducible assumption | (unfold rng; omega) | (unfold rng; (repeat' split) <;> omega) | grind), ?_⟩
        have q3 := rσ.1 118 (v3.toNat); simp only [rgT] at q3
        have L29 : ∀ (fu29 : Nat) (τ29 : Sg) (v5 : Int), Rg ra jx rm τ29 → Fr ra jx rm [82, 115, 116] [117] σ τ29 → (PtI ra rm τ29 b A ∧ (0 ≤ v5)) → ((4000 - v5).toNat) < fu29 → wl_X16_passJoin_29 ra jx rm (wl_X16_passJoin_8 ra jx rm Q X fu8) Q X fu29 τ29 v1 v2 v3 v4 v5 := by
          intro fu29
          induction fu29 with
          | zero => intro τ29 _ _ _ _ h9; omega
          | succ fu29 ih29 =>
            intro τ29 v5 rτ29 fτ29 hi29 hm29
            unfold wl_X16_passJoin_29
            have eτ29_118 := fτ29.1 118 (by decide)
            have jτ29 := fτ29.2.2.1
            have pτ29 := fτ29.2.2.2
            unfold w_X16_passJoin_29
            try simp only [forall_eq, rII, rIJ, rIP, rJJ, rJI, rJP, rPP, rPI, rPJ, g1, g2, g3, g4, g5, g6, g7, g8, Nat.reduceEqDiff, Nat.reduceAdd, false_and, and_false, true_and, and_true, reduceIte, nZ0, nZ1, eτ29_118.1, eτ29_118.2, fun a k => (jτ29 a k).1, fun a k => (jτ29 a k).2, pτ29]
            obtain ⟨pt9, hi29⟩ := hi29
            refine ⟨by (first | omega | with_reducible assumption | (unfold rng; omega) | (unfold rng; (repeat' split) <;> omega) | grind), ?_⟩
            refine ⟨by (first | omega | with_reducible assumption | (unfold rng; omega) | (unfold rng; (repeat' split) <;> omega) | grind), ?_⟩
            have q4 := rσ.1 118 ((v3 + 1).toNat); simp only [rgT] at q4
            split
            · rename_i hc39
              skip
              unfold w_X16_passJoin_166
              try simp only [forall_eq, rII, rIJ, rIP, rJJ, rJI, rJP, rPP, rPI, rPJ, g1, g2, g3, g4, g5, g6, g7, g8, Nat.reduceEqDiff, Nat.reduceAdd, false_and, and_false, true_and, and_true, reduceIte, nZ0, nZ1, eτ29_118.1, eτ29_118.2, fun a k => (jτ29 a k).1, fun a k => (jτ29 a k).2, pτ29]
              refine ⟨by (first | omega | with_reducible assumption | (unfold rng; omega) | (unfold rng; (repeat' split) <;> omega) | grind), ?_⟩
              refine ih8 _ _ ?_ ?_ ?_ ?_
              · exact rτ29
              · exact fτ29
              · refine ⟨?_, ?_⟩; exact (by first | exact pt9); exact (by (first | omega | with_reducible assumption | (unfold rng; omega) | (unfold rng; (repeat' split) <;> omega) | grind))
              · (try simp only [rII, rIJ, rIP, rJJ, rJI, rJP, rPP, rPI, rPJ, g1, g2, g3, g4, g5, g6, g7, g8, Nat.reduceEqDiff, Nat.reduceAdd, false_and, and_false, true_and, and_true, reduceIte, nZ0, nZ1, eτ29_118.1, eτ29_118.2, fun a k => (jτ29 a k).1, fun a k => (jτ29 a k).2, pτ29]) <;> (first | omega | with_reducible assumption | (unfold rng; omega) | (unfold rng; (repeat' split) <;> omega) | grind)
            · rename_i hc39
              skip
              unfold w_X16_passJoin_42
              try simp only [forall_eq, rII, rIJ, rIP, rJJ, rJI, rJP, rPP, rPI, rPJ, g1, g2, g3, g4, g5, g6, g7, g8, Nat.reduceEqDiff, Nat.reduceAdd, false_and, and_false, true_and, and_true, reduceIte, nZ0, nZ1, eτ29_118.1, eτ29_118.2, fun a k => (jτ29 a k).1, fun a k => (jτ29 a k).2, pτ29]
              refine ⟨by (first | omega | with_reducible assumption | (unfold rng; omega) | (unfold rng; (repeat' split) <;> omega) | grind), ?_⟩
              refine ⟨ja, by exact hj, hja, ?_⟩
              refine ⟨by (first | omega | with_reducible assumption | (unfold rng; omega) | (unfold rng; (repeat' split) <;> omega) | grind), ?_⟩
              have q5 := rσ.2.2.1 ja 10 (v1.toNat); simp only [rgJ] at q5
              refine ⟨by (first | omega | with_reducible assumption | (unfold rng; omega) | (unfold rng; (repeat' split) <;> omega) | grind), ?_⟩
              refine ⟨by (first | omega | with_reducible assumption | (unfold rng; omega) | (unfold rng; (repeat' split) <;> omega) | grind), ?_⟩
              refine ⟨by (first | omega | with_reducible assumption | (unfold rng; omega) | (unfold rng; (repeat' split) <;> omega) | grind), ?_⟩
              refine ⟨ja, by exact hj, hja, ?_⟩
              refine ⟨by (first | omega | with_reducible assumption | (unfold rng; omega) | (unfold rng; (repeat' split) <;> omega) | grind), ?_⟩
              have q6 := rσ.2.2.1 ja 11 (v1.toNat); simp only [rgJ] at q6
              refine ⟨by (first | omega | with_reducible assumption | (unfold rng; omega) | (unfold rng; (repeat' split) <;> omega) | grind), ?_⟩
              refine ⟨by (first | omega | with_reducible assumption | (unfold rng; omega) | (unfold rng; (repeat' split) <;> omega) | grind), ?_⟩
              split
              · rename_i hc83
                skip
                unfold w_X16_passJoin_160
                try simp only [forall_eq, rII, rIJ, rIP, rJJ, rJI, rJP, rPP, rPI, rPJ, g1, g2, g3, g4, g5, g6, g7, g8, Nat.reduceEqDiff, Nat.reduceAdd, false_and, and_false, true_and, and_true, reduceIte, nZ0, nZ1, eτ29_118.1, eτ29_118.2, fun a k => (jτ29 a k).1, fun a k => (jτ29 a k).2, pτ29]
                refine ⟨by (first | omega | with_reducible assumption | (unfold rng; omega) | (unfold rng; (repeat' split) <;> omega) | grind), ?_⟩
                refine ih29 _ _ ?_ ?_ ?_ ?_
                · exact rτ29
                · exact fτ29
                · refine ⟨?_, ?_⟩; exact (by first | exact pt9); exact (by (first | omega | with_reducible assumption | (unfold rng; omega) | (unfold rng; (repeat' split) <;> omega) | grind))
                · (try simp only [rII, rIJ, rIP, rJJ, rJI, rJP, rPP, rPI, rPJ, g1, g2, g3, g4, g5, g6, g7, g8, Nat.reduceEqDiff, Nat.reduceAdd, false_and, and_false, true_and, and_true, reduceIte, nZ0, nZ1, eτ29_118.1, eτ29_118.2, fun a k => (jτ29 a k).1, fun a k => (jτ29 a k).2, pτ29]) <;> (first | omega | with_reducible assumption | (unfold rng; omega) | (unfold rng; (repeat' split) <;> omega) | grind)
              · rename_i hc83
                skip
                unfold w_X16_passJoin_86
                try simp only [forall_eq, rII, rIJ, rIP, rJJ, rJI, rJP, rPP, rPI, rPJ, g1, g2, g3, g4, g5, g6, g7, g8, Nat.reduceEqDiff, Nat.reduceAdd, false_and, and_false, true_and, and_true, reduceIte, nZ0, nZ1, eτ29_118.1, eτ29_118.2, fun a k => (jτ29 a k).1, fun a k => (jτ29 a k).2, pτ29]
                refine ⟨by (first | omega | with_reducible assumption | (unfold rng; omega) | (unfold rng; (repeat' split) <;> omega) | grind), ?_⟩
                refine ⟨by (first | omega | with_reducible assumption | (unfold rng; omega) | (unfold rng; (repeat' split) <;> omega) | grind), ?_⟩
                refine ⟨ja, by exact hj, hja, ?_⟩
                refine ⟨by (first | omega | with_reducible assumption | (unfold rng; omega) | (unfold rng; (repeat' split) <;> omega) | grind), ?_⟩
                refine ⟨ja, by exact hj, hja, ?_⟩
                refine ⟨by (first | omega | with_reducible assumption | (unfold rng; omega) | (unfold rng; (repeat' split) <;> omega) | grind), ?_⟩
                refine s_X16_within g rτ29 (fun r22 p7 => ?_)
                obtain ⟨p7, p7b⟩ := p7
                try simp only [forall_eq, rII, rIJ, rIP, rJJ, rJI, rJP, rPP, rPI, rPJ, g1, g2, g3, g4, g5, g6, g7, g8, Nat.reduceEqDiff, Nat.reduceAdd, false_and, and_false, true_and, and_true, reduceIte, nZ0, nZ1, eτ29_118.1, eτ29_118.2, fun a k => (jτ29 a k).1, fun a k => (jτ29 a k).2, pτ29]
                split
                · rename_i hc122
                  skip
                  unfold w_X16_passJoin_160
                  try simp only [forall_eq, rII, rIJ, rIP, rJJ, rJI, rJP, rPP, rPI, rPJ, g1, g2, g3, g4, g5, g6, g7, g8, Nat.reduceEqDiff, Nat.reduceAdd, false_and, and_false, true_and, and_true, reduceIte, nZ0, nZ1, eτ29_118.1, eτ29_118.2, fun a k => (jτ29 a k).1, fun a k => (jτ29 a k).2, pτ29]
                  refine ⟨by (first | omega | with_reducible assumption | (unfold rng; omega) | (unfold rng; (repeat' split) <;> omega) | grind), ?_⟩
                  refine ih29 _ _ ?_ ?_ ?_ ?_
                  · exact rτ29
                  · exact fτ29
                  · refine ⟨?_, ?_⟩; exact (by first | exact pt9); exact (by (first | omega | with_reducible assumption | (unfold rng; omega) | (unfold rng; (repeat' split) <;> omega) | grind))
                  · (try simp only [rII, rIJ, rIP, rJJ, rJI, rJP, rPP, rPI, rPJ, g1, g2, g3, g4, g5, g6, g7, g8, Nat.reduceEqDiff, Nat.reduceAdd, false_and, and_false, true_and, and_true, reduceIte, nZ0, nZ1, eτ29_118.1, eτ29_118.2, fun a k => (jτ29 a k).1, fun a k => (jτ29 a k).2, pτ29]) <;> (first | omega | with_reducible assumption | (unfold rng; omega) | (unfold rng; (repeat' split) <;> omega) | grind)
                · rename_i hc122
                  skip
                  unfold w_X16_passJoin_125
                  try simp only [forall_eq, rII, rIJ, rIP, rJJ, rJI, rJP, rPP, rPI, rPJ, g1, g2, g3, g4, g5, g6, g7, g8, Nat.reduceEqDiff, Nat.reduceAdd, false_and, and_false, true_and, and_true, reduceIte, nZ0, nZ1, eτ29_118.1, eτ29_118.2, fun a k => (jτ29 a k).1, fun a k => (jτ29 a k).2, pτ29]
                  refine s_X16_lay g rτ29 (by first | exact hj | (rw [fτ29.2.2.2]; exact hj)) hja (by (try simp only [rII, rIJ, rIP, rJJ, rJI, rJP, rPP, rPI, rPJ, g1, g2, g3, g4, g5, g6, g7, g8, Nat.reduceEqDiff, Nat.reduceAdd, false_and, and_false, true_and, and_true, reduceIte, nZ0, nZ1, eτ29_118.1, eτ29_118.2, fun a k => (jτ29 a k).1, fun a k => (jτ29 a k).2, pτ29]) <;> (first | omega | with_reducible assumption | (unfold rng; omega) | (unfold rng; (repeat' split) <;> omega) | grind)) (by (try simp only [rII, rIJ, rIP, rJJ, rJI, rJP, rPP, rPI, rPJ, g1, g2, g3, g4, g5, g6, g7, g8, Nat.reduceEqDiff, Nat.reduceAdd, false_and, and_false, true_and, and_true, reduceIte, nZ0, nZ1, eτ29_118.1, eτ29_118.2, fun a k => (jτ29 a k).1, fun a k => (jτ29 a k).2, pτ29]) <;> (first | omega | with_reducible assumption | (unfold rng; omega) | (unfold rng; (repeat' split) <;> omega) | grind)) (by (try simp only [rII, rIJ, rIP, rJJ, rJI, rJP, rPP, rPI, rPJ, g1, g2, g3, g4, g5, g6, g7, g8, Nat.reduceEqDiff, Nat.reduceAdd, false_and, and_false, true_and, and_true, reduceIte, nZ0, nZ1, eτ29_118.1, eτ29_118.2, fun a k => (jτ29 a k).1, fun a k => (jτ29 a k).2, pτ29]) <;> (first | omega | with_reducible assumption | (unfold rng; omega) | (unfold rng; (repeat' split) <;> omega) | grind)) (by (try simp only [rII, rIJ, rIP, rJJ, rJI, rJP, rPP, rPI, rPJ, g1, g2, g3, g4, g5, g6, g7, g8, Nat.reduceEqDiff, Nat.reduceAdd, false_and, and_false, true_and, and_true, reduceIte, nZ0, nZ1, eτ29_118.1, eτ29_118.2, fun a k => (jτ29 a k).1, fun a k => (jτ29 a k).2, pτ29]) <;> (first | omega | with_reducible assumption | (unfold rng; omega) | (unfold rng; (repeat' split) <;> omega) | grind)) (by (try simp only [rII, rIJ, rIP, rJJ, rJI, rJP, rPP, rPI, rPJ, g1, g2, g3, g4, g5, g6, g7, g8, Nat.reduceEqDiff, Nat.reduceAdd, false_and, and_false, true_and, and_true, reduceIte, nZ0, nZ1, eτ29_118.1, eτ29_118.2, fun a k => (jτ29 a k).1, fun a k => (jτ29 a k).2, pτ29]) <;> (first | omega | with_reducible assumption | (unfold rng; omega) | (unfold rng; (repeat' split) <;> omega) | grind)) (fun σ23 _ rσ23 fc p8 => ?_)
                  have fσ23 : Fr ra jx rm [82, 115, 116] [117] σ σ23 := Fr.tr fτ29 (Fr.mor (fc) (by decide) (by decide))
                  have pt9 := PtI.fr pt9 fc (by decide) (by decide)
                  have eσ23_118 := fσ23.1 118 (by decide)
                  have jσ23 := fσ23.2.2.1
                  have pσ23 := fσ23.2.2.2
                  try simp only [forall_eq, rII, rIJ, rIP, rJJ, rJI, rJP, rPP, rPI, rPJ, g1, g2, g3, g4, g5, g6, g7, g8, Nat.reduceEqDiff, Nat.reduceAdd, false_and, and_false, true_and, and_true, reduceIte, nZ0, nZ1, eσ23_118.1, eσ23_118.2, fun a k => (jσ23 a k).1, fun a k => (jσ23 a k).2, pσ23]
                  refine ⟨by (first | omega | with_reducible assumption | (unfold rng; omega) | (unfold rng; (repeat' split) <;> omega) | grind), ?_⟩
                  refine ⟨by (first | omega | with_reducible assumption | (unfold rng; omega) | (unfold rng; (repeat' split) <;> omega) | grind), ?_⟩
                  refine s2_X16_pass (b3 := (ra 82)) (n3 := 16) g rσ23 rfl (Or.inl ⟨82, rfl, by decide⟩) (by (try simp only [rII, rIJ, rIP, rJJ, rJI, rJP, rPP, rPI, rPJ, g1, g2, g3, g4, g5, g6, g7, g8, Nat.reduceEqDiff, Nat.reduceAdd, false_and, and_false, true_and, and_true, reduceIte, nZ0, nZ1, eσ23_118.1, eσ23_118.2, fun a k => (jσ23 a k).1, fun a k => (jσ23 a k).2, pσ23]) <;> (first | omega | with_reducible assumption | (unfold rng; omega) | (unfold rng; (repeat' split) <;> omega) | grind)) (by (try simp only [rII, rIJ, rIP, rJJ, rJI, rJP, rPP, rPI, rPJ, g1, g2, g3, g4, g5, g6, g7, g8, Nat.reduceEqDiff, Nat.reduceAdd, false_and, and_false, true_and, and_true, reduceIte, nZ0, nZ1, eσ23_118.1, eσ23_118.2, fun a k => (jσ23 a k).1, fun a k => (jσ23 a k).2, pσ23]) <;> (first | omega | with_reducible assumption | (unfold rng; omega) | (unfold rng; (repeat' split) <;> omega) | grind)) (by first | exact pt9) hA (by (try simp only [rII, rIJ, rIP, rJJ, rJI, rJP, rPP, rPI, rPJ, g1, g2, g3, g4, g5, g6, g7, g8, Nat.reduceEqDiff, Nat.reduceAdd, false_and, and_false, true_and, and_true, reduceIte, nZ0, nZ1, eσ23_118.1, eσ23_118.2, fun a k => (jσ23 a k).1, fun a k => (jσ23 a k).2, pσ23]) <;> exact PtI.mx (PtI.lo pt9 (by omega) (by omega)) (PtI.lo pt9 (by omega) (by omega))) (fun σ24 _ rσ24 fc p9 => ?_) (fun σx E rx fx px => hX _ _ rx (Fr.tr fσ23 (Fr.mor (fx) (by decide) (by decide))) px)
                  have fσ24 : Fr ra jx rm [82, 115, 116] [117] σ σ24 := Fr.tr fσ23 (Fr.mor (fc) (by decide) (by decide))
                  have pt9 := p9.1
                  have eσ24_118 := fσ24.1 118 (by decide)
                  have jσ24 := fσ24.2.2.1
                  have pσ24 := fσ24.2.2.2
                  try simp only [forall_eq, rII, rIJ, rIP, rJJ, rJI, rJP, rPP, rPI, rPJ, g1, g2, g3, g4, g5, g6, g7, g8, Nat.reduceEqDiff, Nat.reduceAdd, false_and, and_false, true_and, and_true, reduceIte, nZ0, nZ1, eσ24_118.1, eσ24_118.2, fun a k => (jσ24 a k).1, fun a k => (jσ24 a k).2, pσ24]
                  unfold w_X16_passJoin_160
                  try simp only [forall_eq, rII, rIJ, rIP, rJJ, rJI, rJP, rPP, rPI, rPJ, g1, g2, g3, g4, g5, g6, g7, g8, Nat.reduceEqDiff, Nat.reduceAdd, false_and, and_false, true_and, and_true, reduceIte, nZ0, nZ1, eσ24_118.1, eσ24_118.2, fun a k => (jσ24 a k).1, fun a k => (jσ24 a k).2, pσ24]
                  refine ⟨by (first | omega | with_reducible assumption | (unfold rng; omega) | (unfold rng; (repeat' split) <;> omega) | grind), ?_⟩
                  refine ih29 _ _ ?_ ?_ ?_ ?_
                  · exact rσ24
                  · exact fσ24
                  · refine ⟨?_, ?_⟩; exact (by first | exact pt9); exact (by (first | omega | with_reducible assumption | (unfold rng; omega) | (unfold rng; (repeat' split) <;> omega) | grind))
                  · (try simp only [rII, rIJ, rIP, rJJ, rJI, rJP, rPP, rPI, rPJ, g1, g2, g3, g4, g5, g6, g7, g8, Nat.reduceEqDiff, Nat.reduceAdd, false_and, and_false, true_and, and_true, reduceIte, nZ0, nZ1, eσ24_118.1, eσ24_118.2, fun a k => (jσ24 a k).1, fun a k => (jσ24 a k).2, pσ24]) <;> (first | omega | with_reducible assumption | (unfold rng; omega) | (unfold rng; (repeat' split) <;> omega) | grind)
        refine ⟨_, L29 _ _ _ ?_ ?_ ?_ (Nat.lt_succ_self _)⟩
        · exact rτ8
        · exact fτ8
        · refine ⟨?_, ?_⟩; exact (by first | exact pt9); exact (by (first | omega | with_reducible assumption | (unfold rng; omega) | (unfold rng; (repeat' split) <;> omega) | grind))
  refine ⟨_, L8 _ _ _ ?_ ?_ ?_ (Nat.lt_succ_self _)⟩
  · exact rσ
  · exact fσ
  · refine ⟨?_, ?_⟩; exact (by first | exact pt9); exact (by (first | omega | with_reducible assumption | (unfold rng; omega) | (unfold rng; (repeat' split) <;> omega) | grind))
set_option maxHeartbeats 4000000 in
theorem s2_X16_passLook {ra : Nat → Nat} {jx : Nat → Nat → Nat} {rm : Nat} {ja : Nat} {b : Int} {A : Int} (g : Geo ra jx rm) {σ : Sg} {v1 : Int} {v2 : Int} {v3 : Int} (rσ : Rg ra jx rm σ) (hj : gP σ rm 17 = some ja) (hja : ja = ra 15 ∨ ja = ra 16) (h1 : 0 ≤ v1 ∧ v1 < 16) (h2 : 0 ≤ v2 ∧ v2 < 16) (h3 : 0 ≤ v3 ∧ v3 < 16) (hf : 0 ≤ gI σ (jx ja 4) v1.toNat) (hs : 0 ≤ gI σ (jx ja 5) v1.toNat) (hpt : PtI ra rm σ b A) (hA : 1000000 ≤ A ∧ A ≤ 2000000) (hin_v2 : gI σ (ra 118) (v2 + 1).toNat ≤ b) {Q : Sg → Unit → Prop} {X : Sg → String → Prop} (hQ : ∀ (σ' : Sg) (r : Unit), Rg ra jx rm σ' → Fr ra jx rm [82, 115, 116] [117] σ σ' → (PtI ra rm σ' b A ∧ (True)) → Q σ' r) (hX : ∀ (σ' : Sg) (E : String), Rg ra jx rm σ' → Fr ra jx rm [82, 115, 116] [117] σ σ' → (E = "StreamHouseModel$Broken") → X σ' E) : wp_X16_passLook ra jx rm v1 v2 v3 σ Q X := by
  obtain ⟨g1, g2, g3, g4, g5, g6, g7, g8⟩ := id g
  have fσ : Fr ra jx rm [82, 115, 116] [117] σ σ := Fr.rf
  have pt9 := hpt
  unfold wp_X16_passLook
  unfold w_X16_passLook_0
  try simp only [forall_eq, rII, rIJ, rIP, rJJ, rJI, rJP, rPP, rPI, rPJ, g1, g2, g3, g4, g5, g6, g7, g8, Nat.reduceEqDiff, Nat.reduceAdd, false_and, and_false, true_and, and_true, reduceIte, nZ0, nZ1]
  refine ⟨by (first | omega | with_reducible assumption | (unfold rng; omega) | (unfold rng; (repeat' split) <;> omega) | grind), ?_⟩
  have q1 := rσ.1 118 (v2.toNat); simp only [rgT] at q1
  have L8 : ∀ (fu8 : Nat) (τ8 : Sg) (v4 : Int), Rg ra jx rm τ8 → Fr ra jx rm [82, 115, 116] [117] σ τ8 → (PtI ra rm τ8 b A ∧ (0 ≤ v4)) → ((4000 - v4).toNat) < fu8 → wl_X16_passLook_8 ra jx rm Q X fu8 τ8 v1 v2 v3 v4 := by
    intro fu8
    induction fu8 with
    | zero => intro τ8 _ _ _ _ h9; omega
    | succ fu8 ih8 =>
      intro τ8 v4 rτ8 fτ8 hi8 hm8
      unfold wl_X16_passLook_8
      have eτ8_118 := fτ8.1 118 (by decide)
      have jτ8 := fτ8.2.2.1
      have pτ8 := fτ8.2.2.2
      unfold w_X16_passLook_8
      try simp only [forall_eq, rII, rIJ, rIP, rJJ, rJI, rJP, rPP, rPI, rPJ, g1, g2, g3, g4, g5, g6, g7, g8, Nat.reduceEqDiff, Nat.reduceAdd, false_and, and_false, true_and, and_true, reduceIte, nZ0, nZ1, eτ8_118.1, eτ8_118.2, fun a k => (jτ8 a k).1, fun a k => (jτ8 a k).2, pτ8]
      obtain ⟨pt9, hi8⟩ := hi8
      refine ⟨by (first | omega | with_reducible assumption | (unfold rng; omega) | (unfold rng; (repeat' split) <;> omega) | grind), ?_⟩
      refine ⟨by (first | omega | with_reducible assumption | (unfold rng; omega) | (unfold rng; (repeat' split) <;> omega) | grind), ?_⟩
      have q2 := rσ.1 118 ((v2 + 1).toNat); simp only [rgT] at q2
      split
      · rename_i hc18
        skip
        unfold w_X16_passLook_225
        try simp only [forall_eq, rII, rIJ, rIP, rJJ, rJI, rJP, rPP, rPI, rPJ, g1, g2, g3, g4, g5, g6, g7, g8, Nat.reduceEqDiff, Nat.reduceAdd, false_and, and_false, true_and, and_true, reduceIte, nZ0, nZ1, eτ8_118.1, eτ8_118.2, fun a k => (jτ8 a k).1, fun a k => (jτ8 a k).2, pτ8]
        refine hQ _ _ ?_ ?_ ?_
        · exact rτ8
        · exact fτ8
        · refine ⟨(by first | exact pt9), ?_⟩; first | trivial | (first | omega | with_reducible assumption | (unfold rng; omega) | (unfold rng; (repeat' split) <;> omega) | grind)
      · rename_i hc18
        skip
        unfold w_X16_passLook_21
        try simp only [forall_eq, rII, rIJ, rIP, rJJ, rJI, rJP, rPP, rPI, rPJ, g1, g2, g3, g4, g5, g6, g7, g8, Nat.reduceEqDiff, Nat.reduceAdd, false_and, and_false, true_and, and_true, reduceIte, nZ0, nZ1, eτ8_118.1, eτ8_118.2, fun a k => (jτ8 a k).1, fun a k => (jτ8 a k).2, pτ8]
        refine ⟨by (first | omega | with_reducible assumption | (unfold rng; omega) | (unfold rng; (repeat' split) <;> omega) | grind), ?_⟩
        have q3 := rσ.1 118 (v3.toNat); simp only [rgT] at q3
        have L32 : ∀ (fu32 : Nat) (v5 : Int) (v6 : Int), (PtI ra rm τ8 b A ∧ (0 ≤ v6 ∧ (v5 = -1 ∨ (0 ≤ v5 ∧ v5 < 4000)))) → ((4000 - v6).toNat) < fu32 → wl_X16_passLook_32 ra jx rm (wl_X16_passLook_8 ra jx rm Q X fu8) Q X fu32 τ8 v1 v2 v3 v4 v5 v6 := by
          intro fu32
          induction fu32 with
          | zero => intro  _ _ _ h9; omega
          | succ fu32 ih32 =>
            intro v5 v6 hi32 hm32
            unfold wl_X16_passLook_32
            unfold w_X16_passLook_32
            try simp only [forall_eq, rII, rIJ, rIP, rJJ, rJI, rJP, rPP, rPI, rPJ, g1, g2, g3, g4, g5, g6, g7, g8, Nat.reduceEqDiff, Nat.reduceAdd, false_and, and_false, true_and, and_true, reduceIte, nZ0, nZ1, eτ8_118.1, eτ8_118.2, fun a k => (jτ8 a k).1, fun a k => (jτ8 a k).2, pτ8]
            obtain ⟨pt9, hi32⟩ := hi32
            refine ⟨by (first | omega | with_reducible assumption | (unfold rng; omega) | (unfold rng; (repeat' split) <;> omega) | grind), ?_⟩
            refine ⟨by (first | omega | with_reducible assumption | (unfold rng; omega) | (unfold rng; (repeat' split) <;> omega) | grind), ?_⟩
            have q4 := rσ.1 118 ((v3 + 1).toNat); simp only [rgT] at q4
            split
            · rename_i hc42
              skip
              unfold w_X16_passLook_188
              try simp only [forall_eq, rII, rIJ, rIP, rJJ, rJI, rJP, rPP, rPI, rPJ, g1, g2, g3, g4, g5, g6, g7, g8, Nat.reduceEqDiff, Nat.reduceAdd, false_and, and_false, true_and, and_true, reduceIte, nZ0, nZ1, eτ8_118.1, eτ8_118.2, fun a k => (jτ8 a k).1, fun a k => (jτ8 a k).2, pτ8]
              split
              · rename_i hc191
                skip
                unfold w_X16_passLook_219
                try simp only [forall_eq, rII, rIJ, rIP, rJJ, rJI, rJP, rPP, rPI, rPJ, g1, g2, g3, g4, g5, g6, g7, g8, Nat.reduceEqDiff, Nat.reduceAdd, false_and, and_false, true_and, and_true, reduceIte, nZ0, nZ1, eτ8_118.1, eτ8_118.2, fun a k => (jτ8 a k).1, fun a k => (jτ8 a k).2, pτ8]
                refine ⟨by (first | omega | with_reducible assumption | (unfold rng; omega) | (unfold rng; (repeat' split) <;> omega) | grind), ?_⟩
                refine ih8 _ _ ?_ ?_ ?_ ?_
                · exact rτ8
                · exact fτ8
                · refine ⟨?_, ?_⟩; exact (by first | exact pt9); exact (by (first | omega | with_reducible assumption | (unfold rng; omega) | (unfold rng; (repeat' split) <;> omega) | grind))
                · (try simp only [rII, rIJ, rIP, rJJ, rJI, rJP, rPP, rPI, rPJ, g1, g2, g3, g4, g5, g6, g7, g8, Nat.reduceEqDiff, Nat.reduceAdd, false_and, and_false, true_and, and_true, reduceIte, nZ0, nZ1, eτ8_118.1, eτ8_118.2, fun a k => (jτ8 a k).1, fun a k => (jτ8 a k).2, pτ8]) <;> (first | omega | with_reducible assumption | (unfold rng; omega) | (unfold rng; (repeat' split) <;> omega) | grind)
              · rename_i hc191
                skip
                unfold w_X16_passLook_194
                try simp only [forall_eq, rII, rIJ, rIP, rJJ, rJI, rJP, rPP, rPI, rPJ, g1, g2, g3, g4, g5, g6, g7, g8, Nat.reduceEqDiff, Nat.reduceAdd, false_and, and_false, true_and, and_true, reduceIte, nZ0, nZ1, eτ8_118.1, eτ8_118.2, fun a k => (jτ8 a k).1, fun a k => (jτ8 a k).2, pτ8]
                refine s_X16_lay g rτ8 (by first | exact hj | (rw [fτ8.2.2.2]; exact hj)) hja (by (try simp only [rII, rIJ, rIP, rJJ, rJI, rJP, rPP, rPI, rPJ, g1, g2, g3, g4, g5, g6, g7, g8, Nat.reduceEqDiff, Nat.reduceAdd, false_and, and_false, true_and, and_true, reduceIte, nZ0, nZ1, eτ8_118.1, eτ8_118.2, fun a k => (jτ8 a k).1, fun a k => (jτ8 a k).2, pτ8]) <;> (first | omega | with_reducible assumption | (unfold rng; omega) | (unfold rng; (repeat' split) <;> omega) | grind)) (by (try simp only [rII, rIJ, rIP, rJJ, rJI, rJP, rPP, rPI, rPJ, g1, g2, g3, g4, g5, g6, g7, g8, Nat.reduceEqDiff, Nat.reduceAdd, false_and, and_false, true_and, and_true, reduceIte, nZ0, nZ1, eτ8_118.1, eτ8_118.2, fun a k => (jτ8 a k).1, fun a k => (jτ8 a k).2, pτ8]) <;> (first | omega | with_reducible assumption | (unfold rng; omega) | (unfold rng; (repeat' split) <;> omega) | grind)) (by (try simp only [rII, rIJ, rIP, rJJ, rJI, rJP, rPP, rPI, rPJ, g1, g2, g3, g4, g5, g6, g7, g8, Nat.reduceEqDiff, Nat.reduceAdd, false_and, and_false, true_and, and_true, reduceIte, nZ0, nZ1, eτ8_118.1, eτ8_118.2, fun a k => (jτ8 a k).1, fun a k => (jτ8 a k).2, pτ8]) <;> (first | omega | with_reducible assumption | (unfold rng; omega) | (unfold rng; (repeat' split) <;> omega) | grind)) (by (try simp only [rII, rIJ, rIP, rJJ, rJI, rJP, rPP, rPI, rPJ, g1, g2, g3, g4, g5, g6, g7, g8, Nat.reduceEqDiff, Nat.reduceAdd, false_and, and_false, true_and, and_true, reduceIte, nZ0, nZ1, eτ8_118.1, eτ8_118.2, fun a k => (jτ8 a k).1, fun a k => (jτ8 a k).2, pτ8]) <;> (first | omega | with_reducible assumption | (unfold rng; omega) | (unfold rng; (repeat' split) <;> omega) | grind)) (by (try simp only [rII, rIJ, rIP, rJJ, rJI, rJP, rPP, rPI, rPJ, g1, g2, g3, g4, g5, g6, g7, g8, Nat.reduceEqDiff, Nat.reduceAdd, false_and, and_false, true_and, and_true, reduceIte, nZ0, nZ1, eτ8_118.1, eτ8_118.2, fun a k => (jτ8 a k).1, fun a k => (jτ8 a k).2, pτ8]) <;> (first | omega | with_reducible assumption | (unfold rng; omega) | (unfold rng; (repeat' split) <;> omega) | grind)) (fun σ15 _ rσ15 fc p5 => ?_)
                have fσ15 : Fr ra jx rm [82, 115, 116] [117] σ σ15 := Fr.tr fτ8 (Fr.mor (fc) (by decide) (by decide))
                have pt9 := PtI.fr pt9 fc (by decide) (by decide)
                have eσ15_118 := fσ15.1 118 (by decide)
                have jσ15 := fσ15.2.2.1
                have pσ15 := fσ15.2.2.2
                try simp only [forall_eq, rII, rIJ, rIP, rJJ, rJI, rJP, rPP, rPI, rPJ, g1, g2, g3, g4, g5, g6, g7, g8, Nat.reduceEqDiff, Nat.reduceAdd, false_and, and_false, true_and, and_true, reduceIte, nZ0, nZ1, eσ15_118.1, eσ15_118.2, fun a k => (jσ15 a k).1, fun a k => (jσ15 a k).2, pσ15]
                refine ⟨by (first | omega | with_reducible assumption | (unfold rng; omega) | (unfold rng; (repeat' split) <;> omega) | grind), ?_⟩
                refine s2_X16_pass (b3 := (ra 82)) (n3 := 16) g rσ15 rfl (Or.inl ⟨82, rfl, by decide⟩) (by (try simp only [rII, rIJ, rIP, rJJ, rJI, rJP, rPP, rPI, rPJ, g1, g2, g3, g4, g5, g6, g7, g8, Nat.reduceEqDiff, Nat.reduceAdd, false_and, and_false, true_and, and_true, reduceIte, nZ0, nZ1, eσ15_118.1, eσ15_118.2, fun a k => (jσ15 a k).1, fun a k => (jσ15 a k).2, pσ15]) <;> (first | omega | with_reducible assumption | (unfold rng; omega) | (unfold rng; (repeat' split) <;> omega) | grind)) (by (try simp only [rII, rIJ, rIP, rJJ, rJI, rJP, rPP, rPI, rPJ, g1, g2, g3, g4, g5, g6, g7, g8, Nat.reduceEqDiff, Nat.reduceAdd, false_and, and_false, true_and, and_true, reduceIte, nZ0, nZ1, eσ15_118.1, eσ15_118.2, fun a k => (jσ15 a k).1, fun a k => (jσ15 a k).2, pσ15]) <;> (first | omega | with_reducible assumption | (unfold rng; omega) | (unfold rng; (repeat' split) <;> omega) | grind)) (by first | exact pt9) hA (by (try simp only [rII, rIJ, rIP, rJJ, rJI, rJP, rPP, rPI, rPJ, g1, g2, g3, g4, g5, g6, g7, g8, Nat.reduceEqDiff, Nat.reduceAdd, false_and, and_false, true_and, and_true, reduceIte, nZ0, nZ1, eσ15_118.1, eσ15_118.2, fun a k => (jσ15 a k).1, fun a k => (jσ15 a k).2, pσ15]) <;> exact PtI.lo pt9 (by omega) (by omega)) (fun σ16 _ rσ16 fc p6 => ?_) (fun σx E rx fx px => hX _ _ rx (Fr.tr fσ15 (Fr.mor (fx) (by decide) (by decide))) px)
                have fσ16 : Fr ra jx rm [82, 115, 116] [117] σ σ16 := Fr.tr fσ15 (Fr.mor (fc) (by decide) (by decide))
                have pt9 := p6.1
                have eσ16_118 := fσ16.1 118 (by decide)
                have jσ16 := fσ16.2.2.1
                have pσ16 := fσ16.2.2.2
                try simp only [forall_eq, rII, rIJ, rIP, rJJ, rJI, rJP, rPP, rPI, rPJ, g1, g2, g3, g4, g5, g6, g7, g8, Nat.reduceEqDiff, Nat.reduceAdd, false_and, and_false, true_and, and_true, reduceIte, nZ0, nZ1, eσ16_118.1, eσ16_118.2, fun a k => (jσ16 a k).1, fun a k => (jσ16 a k).2, pσ16]
                unfold w_X16_passLook_219
                try simp only [forall_eq, rII, rIJ, rIP, rJJ, rJI, rJP, rPP, rPI, rPJ, g1, g2, g3, g4, g5, g6, g7, g8, Nat.reduceEqDiff, Nat.reduceAdd, false_and, and_false, true_and, and_true, reduceIte, nZ0, nZ1, eσ16_118.1, eσ16_118.2, fun a k => (jσ16 a k).1, fun a k => (jσ16 a k).2, pσ16]
                refine ⟨by (first | omega | with_reducible assumption | (unfold rng; omega) | (unfold rng; (repeat' split) <;> omega) | grind), ?_⟩
                refine ih8 _ _ ?_ ?_ ?_ ?_
                · exact rσ16
                · exact fσ16
                · refine ⟨?_, ?_⟩; exact (by first | exact pt9); exact (by (first | omega | with_reducible assumption | (unfold rng; omega) | (unfold rng; (repeat' split) <;> omega) | grind))
                · (try simp only [rII, rIJ, rIP, rJJ, rJI, rJP, rPP, rPI, rPJ, g1, g2, g3, g4, g5, g6, g7, g8, Nat.reduceEqDiff, Nat.reduceAdd, false_and, and_false, true_and, and_true, reduceIte, nZ0, nZ1, eσ16_118.1, eσ16_118.2, fun a k => (jσ16 a k).1, fun a k => (jσ16 a k).2, pσ16]) <;> (first | omega | with_reducible assumption | (unfold rng; omega) | (unfold rng; (repeat' split) <;> omega) | grind)
            · rename_i hc42
              skip
              unfold w_X16_passLook_45
              try simp only [forall_eq, rII, rIJ, rIP, rJJ, rJI, rJP, rPP, rPI, rPJ, g1, g2, g3, g4, g5, g6, g7, g8, Nat.reduceEqDiff, Nat.reduceAdd, false_and, and_false, true_and, and_true, reduceIte, nZ0, nZ1, eτ8_118.1, eτ8_118.2, fun a k => (jτ8 a k).1, fun a k => (jτ8 a k).2, pτ8]
              refine ⟨by (first | omega | with_reducible assumption | (unfold rng; omega) | (unfold rng; (repeat' split) <;> omega) | grind), ?_⟩
              refine ⟨ja, by exact hj, hja, ?_⟩
              refine ⟨by (first | omega | with_reducible assumption | (unfold rng; omega) | (unfold rng; (repeat' split) <;> omega) | grind), ?_⟩
              have q7 := rσ.2.2.1 ja 10 (v1.toNat); simp only [rgJ] at q7
              refine ⟨by (first | omega | with_reducible assumption | (unfold rng; omega) | (unfold rng; (repeat' split) <;> omega) | grind), ?_⟩
              refine ⟨by (first | omega | with_reducible assumption | (unfold rng; omega) | (unfold rng; (repeat' split) <;> omega) | grind), ?_⟩
              refine ⟨by (first | omega | with_reducible assumption | (unfold rng; omega) | (unfold rng; (repeat' split) <;> omega) | grind), ?_⟩
              refine ⟨ja, by exact hj, hja, ?_⟩
              refine ⟨by (first | omega | with_reducible assumption | (unfold rng; omega) | (unfold rng; (repeat' split) <;> omega) | grind), ?_⟩
              have q8 := rσ.2.2.1 ja 11 (v1.toNat); simp only [rgJ] at q8
              refine ⟨by (first | omega | with_reducible assumption | (unfold rng; omega) | (unfold rng; (repeat' split) <;> omega) | grind), ?_⟩
              refine ⟨by (first | omega | with_reducible assumption | (unfold rng; omega) | (unfold rng; (repeat' split) <;> omega) | grind), ?_⟩
              split
              · rename_i hc86
                skip
                unfold w_X16_passLook_111
                try simp only [forall_eq, rII, rIJ, rIP, rJJ, rJI, rJP, rPP, rPI, rPJ, g1, g2, g3, g4, g5, g6, g7, g8, Nat.reduceEqDiff, Nat.reduceAdd, false_and, and_false, true_and, and_true, reduceIte, nZ0, nZ1, eτ8_118.1, eτ8_118.2, fun a k => (jτ8 a k).1, fun a k => (jτ8 a k).2, pτ8]
                unfold w_X16_passLook_112
                try simp only [forall_eq, rII, rIJ, rIP, rJJ, rJI, rJP, rPP, rPI, rPJ, g1, g2, g3, g4, g5, g6, g7, g8, Nat.reduceEqDiff, Nat.reduceAdd, false_and, and_false, true_and, and_true, reduceIte, nZ0, nZ1, eτ8_118.1, eτ8_118.2, fun a k => (jτ8 a k).1, fun a k => (jτ8 a k).2, pτ8]
                try rw [if_pos (by decide)]
                unfold w_X16_passLook_178
                try simp only [forall_eq, rII, rIJ, rIP, rJJ, rJI, rJP, rPP, rPI, rPJ, g1, g2, g3, g4, g5, g6, g7, g8, Nat.reduceEqDiff, Nat.reduceAdd, false_and, and_false, true_and, and_true, reduceIte, nZ0, nZ1, eτ8_118.1, eτ8_118.2, fun a k => (jτ8 a k).1, fun a k => (jτ8 a k).2, pτ8]
                unfold w_X16_passLook_180
                try simp only [forall_eq, rII, rIJ, rIP, rJJ, rJI, rJP, rPP, rPI, rPJ, g1, g2, g3, g4, g5, g6, g7, g8, Nat.reduceEqDiff, Nat.reduceAdd, false_and, and_false, true_and, and_true, reduceIte, nZ0, nZ1, eτ8_118.1, eτ8_118.2, fun a k => (jτ8 a k).1, fun a k => (jτ8 a k).2, pτ8]
                refine ⟨by (first | omega | with_reducible assumption | (unfold rng; omega) | (unfold rng; (repeat' split) <;> omega) | grind), ?_⟩
                refine ih32 _ _ ?_ ?_
                · refine ⟨?_, ?_⟩; exact (by first | exact pt9); exact (by (first | omega | with_reducible assumption | (unfold rng; omega) | (unfold rng; (repeat' split) <;> omega) | grind))
                · (try simp only [rII, rIJ, rIP, rJJ, rJI, rJP, rPP, rPI, rPJ, g1, g2, g3, g4, g5, g6, g7, g8, Nat.reduceEqDiff, Nat.reduceAdd, false_and, and_false, true_and, and_true, reduceIte, nZ0, nZ1, eτ8_118.1, eτ8_118.2, fun a k => (jτ8 a k).1, fun a k => (jτ8 a k).2, pτ8]) <;> (first | omega | with_reducible assumption | (unfold rng; omega) | (unfold rng; (repeat' split) <;> omega) | grind)
              · rename_i hc86
                skip
                unfold w_X16_passLook_89
                try simp only [forall_eq, rII, rIJ, rIP, rJJ, rJI, rJP, rPP, rPI, rPJ, g1, g2, g3, g4, g5, g6, g7, g8, Nat.reduceEqDiff, Nat.reduceAdd, false_and, and_false, true_and, and_true, reduceIte, nZ0, nZ1, eτ8_118.1, eτ8_118.2, fun a k => (jτ8 a k).1, fun a k => (jτ8 a k).2, pτ8]
                refine ⟨by (first | omega | with_reducible assumption | (unfold rng; omega) | (unfold rng; (repeat' split) <;> omega) | grind), ?_⟩
                refine ⟨by (first | omega | with_reducible assumption | (unfold rng; omega) | (unfold rng; (repeat' split) <;> omega) | grind), ?_⟩
                split
                · rename_i hc104
                  skip
                  unfold w_X16_passLook_111
                  try simp only [forall_eq, rII, rIJ, rIP, rJJ, rJI, rJP, rPP, rPI, rPJ, g1, g2, g3, g4, g5, g6, g7, g8, Nat.reduceEqDiff, Nat.reduceAdd, false_and, and_false, true_and, and_true, reduceIte, nZ0, nZ1, eτ8_118.1, eτ8_118.2, fun a k => (jτ8 a k).1, fun a k => (jτ8 a k).2, pτ8]
                  unfold w_X16_passLook_112
                  try simp only [forall_eq, rII, rIJ, rIP, rJJ, rJI, rJP, rPP, rPI, rPJ, g1, g2, g3, g4, g5, g6, g7, g8, Nat.reduceEqDiff, Nat.reduceAdd, false_and, and_false, true_and, and_true, reduceIte, nZ0, nZ1, eτ8_118.1, eτ8_118.2, fun a k => (jτ8 a k).1, fun a k => (jτ8 a k).2, pτ8]
                  try rw [if_pos (by decide)]
                  unfold w_X16_passLook_178
                  try simp only [forall_eq, rII, rIJ, rIP, rJJ, rJI, rJP, rPP, rPI, rPJ, g1, g2, g3, g4, g5, g6, g7, g8, Nat.reduceEqDiff, Nat.reduceAdd, false_and, and_false, true_and, and_true, reduceIte, nZ0, nZ1, eτ8_118.1, eτ8_118.2, fun a k => (jτ8 a k).1, fun a k => (jτ8 a k).2, pτ8]
                  unfold w_X16_passLook_180
                  try simp only [forall_eq, rII, rIJ, rIP, rJJ, rJI, rJP, rPP, rPI, rPJ, g1, g2, g3, g4, g5, g6, g7, g8, Nat.reduceEqDiff, Nat.reduceAdd, false_and, and_false, true_and, and_true, reduceIte, nZ0, nZ1, eτ8_118.1, eτ8_118.2, fun a k => (jτ8 a k).1, fun a k => (jτ8 a k).2, pτ8]
                  refine ⟨by (first | omega | with_reducible assumption | (unfold rng; omega) | (unfold rng; (repeat' split) <;> omega) | grind), ?_⟩
                  refine ih32 _ _ ?_ ?_
                  · refine ⟨?_, ?_⟩; exact (by first | exact pt9); exact (by (first | omega | with_reducible assumption | (unfold rng; omega) | (unfold rng; (repeat' split) <;> omega) | grind))
                  · (try simp only [rII, rIJ, rIP, rJJ, rJI, rJP, rPP, rPI, rPJ, g1, g2, g3, g4, g5, g6, g7, g8, Nat.reduceEqDiff, Nat.reduceAdd, false_and, and_false, true_and, and_true, reduceIte, nZ0, nZ1, eτ8_118.1, eτ8_118.2, fun a k => (jτ8 a k).1, fun a k => (jτ8 a k).2, pτ8]) <;> (first | omega | with_reducible assumption | (unfold rng; omega) | (unfold rng; (repeat' split) <;> omega) | grind)
                · rename_i hc104
                  skip
                  unfold w_X16_passLook_107
                  try simp only [forall_eq, rII, rIJ, rIP, rJJ, rJI, rJP, rPP, rPI, rPJ, g1, g2, g3, g4, g5, g6, g7, g8, Nat.reduceEqDiff, Nat.reduceAdd, false_and, and_false, true_and, and_true, reduceIte, nZ0, nZ1, eτ8_118.1, eτ8_118.2, fun a k => (jτ8 a k).1, fun a k => (jτ8 a k).2, pτ8]
                  unfold w_X16_passLook_112
                  try simp only [forall_eq, rII, rIJ, rIP, rJJ, rJI, rJP, rPP, rPI, rPJ, g1, g2, g3, g4, g5, g6, g7, g8, Nat.reduceEqDiff, Nat.reduceAdd, false_and, and_false, true_and, and_true, reduceIte, nZ0, nZ1, eτ8_118.1, eτ8_118.2, fun a k => (jτ8 a k).1, fun a k => (jτ8 a k).2, pτ8]
                  try rw [if_neg (by decide)]
                  unfold w_X16_passLook_119
                  try simp only [forall_eq, rII, rIJ, rIP, rJJ, rJI, rJP, rPP, rPI, rPJ, g1, g2, g3, g4, g5, g6, g7, g8, Nat.reduceEqDiff, Nat.reduceAdd, false_and, and_false, true_and, and_true, reduceIte, nZ0, nZ1, eτ8_118.1, eτ8_118.2, fun a k => (jτ8 a k).1, fun a k => (jτ8 a k).2, pτ8]
                  split
                  · rename_i hc122
                    skip
                    unfold w_X16_passLook_173
                    try simp only [forall_eq, rII, rIJ, rIP, rJJ, rJI, rJP, rPP, rPI, rPJ, g1, g2, g3, g4, g5, g6, g7, g8, Nat.reduceEqDiff, Nat.reduceAdd, false_and, and_false, true_and, and_true, reduceIte, nZ0, nZ1, eτ8_118.1, eτ8_118.2, fun a k => (jτ8 a k).1, fun a k => (jτ8 a k).2, pτ8]
                    unfold w_X16_passLook_180
                    try simp only [forall_eq, rII, rIJ, rIP, rJJ, rJI, rJP, rPP, rPI, rPJ, g1, g2, g3, g4, g5, g6, g7, g8, Nat.reduceEqDiff, Nat.reduceAdd, false_and, and_false, true_and, and_true, reduceIte, nZ0, nZ1, eτ8_118.1, eτ8_118.2, fun a k => (jτ8 a k).1, fun a k => (jτ8 a k).2, pτ8]
                    refine ⟨by (first | omega | with_reducible assumption | (unfold rng; omega) | (unfold rng; (repeat' split) <;> omega) | grind), ?_⟩
                    refine ih32 _ _ ?_ ?_
                    · refine ⟨?_, ?_⟩; exact (by first | exact pt9); exact (by (first | omega | with_reducible assumption | (unfold rng; omega) | (unfold rng; (repeat' split) <;> omega) | grind))
                    · (try simp only [rII, rIJ, rIP, rJJ, rJI, rJP, rPP, rPI, rPJ, g1, g2, g3, g4, g5, g6, g7, g8, Nat.reduceEqDiff, Nat.reduceAdd, false_and, and_false, true_and, and_true, reduceIte, nZ0, nZ1, eτ8_118.1, eτ8_118.2, fun a k => (jτ8 a k).1, fun a k => (jτ8 a k).2, pτ8]) <;> (first | omega | with_reducible assumption | (unfold rng; omega) | (unfold rng; (repeat' split) <;> omega) | grind)
                  · rename_i hc122
                    skip
                    unfold w_X16_passLook_125
                    try simp only [forall_eq, rII, rIJ, rIP, rJJ, rJI, rJP, rPP, rPI, rPJ, g1, g2, g3, g4, g5, g6, g7, g8, Nat.reduceEqDiff, Nat.reduceAdd, false_and, and_false, true_and, and_true, reduceIte, nZ0, nZ1, eτ8_118.1, eτ8_118.2, fun a k => (jτ8 a k).1, fun a k => (jτ8 a k).2, pτ8]
                    refine ⟨by (first | omega | with_reducible assumption | (unfold rng; omega) | (unfold rng; (repeat' split) <;> omega) | grind), ?_⟩
                    refine ⟨by (first | omega | with_reducible assumption | (unfold rng; omega) | (unfold rng; (repeat' split) <;> omega) | grind), ?_⟩
                    refine ⟨by (first | omega | with_reducible assumption | (unfold rng; omega) | (unfold rng; (repeat' split) <;> omega) | grind), ?_⟩
                    refine ⟨by (first | omega | with_reducible assumption | (unfold rng; omega) | (unfold rng; (repeat' split) <;> omega) | grind), ?_⟩
                    refine ⟨ja, by exact hj, hja, ?_⟩
                    refine ⟨by (first | omega | with_reducible assumption | (unfold rng; omega) | (unfold rng; (repeat' split) <;> omega) | grind), ?_⟩
                    have q9 := rσ.2.2.1 ja 6 (v3.toNat); simp only [rgJ] at q9
                    refine s_X16_order (b3 := (ra 116)) (n3 := 32000) (b7 := (ra 116)) (n7 := 32000) g rτ8 rfl (Or.inl ⟨116, rfl, by decide⟩) rfl (Or.inl ⟨116, rfl, by decide⟩) (by (try simp only [rII, rIJ, rIP, rJJ, rJI, rJP, rPP, rPI, rPJ, g1, g2, g3, g4, g5, g6, g7, g8, Nat.reduceEqDiff, Nat.reduceAdd, false_and, and_false, true_and, and_true, reduceIte, nZ0, nZ1, eτ8_118.1, eτ8_118.2, fun a k => (jτ8 a k).1, fun a k => (jτ8 a k).2, pτ8]) <;> (first | omega | with_reducible assumption | (unfold rng; omega) | (unfold rng; (repeat' split) <;> omega) | grind)) (by (try simp only [rII, rIJ, rIP, rJJ, rJI, rJP, rPP, rPI, rPJ, g1, g2, g3, g4, g5, g6, g7, g8, Nat.reduceEqDiff, Nat.reduceAdd, false_and, and_false, true_and, and_true, reduceIte, nZ0, nZ1, eτ8_118.1, eτ8_118.2, fun a k => (jτ8 a k).1, fun a k => (jτ8 a k).2, pτ8]) <;> (first | omega | with_reducible assumption | (unfold rng; omega) | (unfold rng; (repeat' split) <;> omega) | grind)) (by (try simp only [rII, rIJ, rIP, rJJ, rJI, rJP, rPP, rPI, rPJ, g1, g2, g3, g4, g5, g6, g7, g8, Nat.reduceEqDiff, Nat.reduceAdd, false_and, and_false, true_and, and_true, reduceIte, nZ0, nZ1, eτ8_118.1, eτ8_118.2, fun a k => (jτ8 a k).1, fun a k => (jτ8 a k).2, pτ8]) <;> (first | omega | with_reducible assumption | (unfold rng; omega) | (unfold rng; (repeat' split) <;> omega) | grind)) (by (try simp only [rII, rIJ, rIP, rJJ, rJI, rJP, rPP, rPI, rPJ, g1, g2, g3, g4, g5, g6, g7, g8, Nat.reduceEqDiff, Nat.reduceAdd, false_and, and_false, true_and, and_true, reduceIte, nZ0, nZ1, eτ8_118.1, eτ8_118.2, fun a k => (jτ8 a k).1, fun a k => (jτ8 a k).2, pτ8]) <;> (first | omega | with_reducible assumption | (unfold rng; omega) | (unfold rng; (repeat' split) <;> omega) | grind)) (by (try simp only [rII, rIJ, rIP, rJJ, rJI, rJP, rPP, rPI, rPJ, g1, g2, g3, g4, g5, g6, g7, g8, Nat.reduceEqDiff, Nat.reduceAdd, false_and, and_false, true_and, and_true, reduceIte, nZ0, nZ1, eτ8_118.1, eτ8_118.2, fun a k => (jτ8 a k).1, fun a k => (jτ8 a k).2, pτ8]) <;> (first | omega | with_reducible assumption | (unfold rng; omega) | (unfold rng; (repeat' split) <;> omega) | grind)) (fun r21 p10 => ?_)
                    try simp only [forall_eq, rII, rIJ, rIP, rJJ, rJI, rJP, rPP, rPI, rPJ, g1, g2, g3, g4, g5, g6, g7, g8, Nat.reduceEqDiff, Nat.reduceAdd, false_and, and_false, true_and, and_true, reduceIte, nZ0, nZ1, eτ8_118.1, eτ8_118.2, fun a k => (jτ8 a k).1, fun a k => (jτ8 a k).2, pτ8]
                    split
                    · rename_i hc170
                      skip
                      unfold w_X16_passLook_178
                      try simp only [forall_eq, rII, rIJ, rIP, rJJ, rJI, rJP, rPP, rPI, rPJ, g1, g2, g3, g4, g5, g6, g7, g8, Nat.reduceEqDiff, Nat.reduceAdd, false_and, and_false, true_and, and_true, reduceIte, nZ0, nZ1, eτ8_118.1, eτ8_118.2, fun a k => (jτ8 a k).1, fun a k => (jτ8 a k).2, pτ8]
                      unfold w_X16_passLook_180
                      try simp only [forall_eq, rII, rIJ, rIP, rJJ, rJI, rJP, rPP, rPI, rPJ, g1, g2, g3, g4, g5, g6, g7, g8, Nat.reduceEqDiff, Nat.reduceAdd, false_and, and_false, true_and, and_true, reduceIte, nZ0, nZ1, eτ8_118.1, eτ8_118.2, fun a k => (jτ8 a k).1, fun a k => (jτ8 a k).2, pτ8]
                      refine ⟨by (first | omega | with_reducible assumption | (unfold rng; omega) | (unfold rng; (repeat' split) <;> omega) | grind), ?_⟩
                      refine ih32 _ _ ?_ ?_
                      · refine ⟨?_, ?_⟩; exact (by first | exact pt9); exact (by (first | omega | with_reducible assumption | (unfold rng; omega) | (unfold rng; (repeat' split) <;> omega) | grind))
                      · (try simp only [rII, rIJ, rIP, rJJ, rJI, rJP, rPP, rPI, rPJ, g1, g2, g3, g4, g5, g6, g7, g8, Nat.reduceEqDiff, Nat.reduceAdd, false_and, and_false, true_and, and_true, reduceIte, nZ0, nZ1, eτ8_118.1, eτ8_118.2, fun a k => (jτ8 a k).1, fun a k => (jτ8 a k).2, pτ8]) <;> (first | omega | with_reducible assumption | (unfold rng; omega) | (unfold rng; (repeat' split) <;> omega) | grind)
                    · rename_i hc170
                      skip
                      unfold w_X16_passLook_173
                      try simp only [forall_eq, rII, rIJ, rIP, rJJ, rJI, rJP, rPP, rPI, rPJ, g1, g2, g3, g4, g5, g6, g7, g8, Nat.reduceEqDiff, Nat.reduceAdd, false_and, and_false, true_and, and_true, reduceIte, nZ0, nZ1, eτ8_118.1, eτ8_118.2, fun a k => (jτ8 a k).1, fun a k => (jτ8 a k).2, pτ8]
                      unfold w_X16_passLook_180
                      try simp only [forall_eq, rII, rIJ, rIP, rJJ, rJI, rJP, rPP, rPI, rPJ, g1, g2, g3, g4, g5, g6, g7, g8, Nat.reduceEqDiff, Nat.reduceAdd, false_and, and_false, true_and, and_true, reduceIte, nZ0, nZ1, eτ8_118.1, eτ8_118.2, fun a k => (jτ8 a k).1, fun a k => (jτ8 a k).2, pτ8]
                      refine ⟨by (first | omega | with_reducible assumption | (unfold rng; omega) | (unfold rng; (repeat' split) <;> omega) | grind), ?_⟩
                      refine ih32 _ _ ?_ ?_
                      · refine ⟨?_, ?_⟩; exact (by first | exact pt9); exact (by (first | omega | with_reducible assumption | (unfold rng; omega) | (unfold rng; (repeat' split) <;> omega) | grind))
                      · (try simp only [rII, rIJ, rIP, rJJ, rJI, rJP, rPP, rPI, rPJ, g1, g2, g3, g4, g5, g6, g7, g8, Nat.reduceEqDiff, Nat.reduceAdd, false_and, and_false, true_and, and_true, reduceIte, nZ0, nZ1, eτ8_118.1, eτ8_118.2, fun a k => (jτ8 a k).1, fun a k => (jτ8 a k).2, pτ8]) <;> (first | omega | with_reducible assumption | (unfold rng; omega) | (unfold rng; (repeat' split) <;> omega) | grind)
        refine ⟨_, L32 _ _ _ ?_ (Nat.lt_succ_self _)⟩
        · refine ⟨?_, ?_⟩; exact (by first | exact pt9); exact (by (first | omega | with_reducible assumption | (unfold rng; omega) | (unfold rng; (repeat' split) <;> omega) | grind))
  refine ⟨_, L8 _ _ _ ?_ ?_ ?_ (Nat.lt_succ_self _)⟩
  · exact rσ
  · exact fσ
  · refine ⟨?_, ?_⟩; exact (by first | exact pt9); exact (by (first | omega | with_reducible assumption | (unfold rng; omega) | (unfold rng; (repeat' split) <;> omega) | grind))
set_option maxHeartbeats 2000000 in
theorem s2_X16_matchOne {ra : Nat → Nat} {jx : Nat → Nat → Nat} {rm : Nat} {ja : Nat} {b : Int} {A : Int} (g : Geo ra jx rm) {σ : Sg} {v1 : Int} {v2 : Int64} {v4 : Int64} {v6 : Int} (rσ : Rg ra jx rm σ) (hj : gP σ rm 17 = some ja) (hja : ja = ra 15 ∨ ja = ra 16) (h1 : 0 ≤ v1 ∧ v1 < 16) (h6 : 0 ≤ v6 ∧ v6 < 4000) (hvs : ∀ k, 0 ≤ k → k < gI σ (jx ja 12) v1.toNat → PO jx ja σ (gI σ (jx ja 13) (8 * v1 + k).toNat)) (hva : 2 ≤ gI σ (jx ja 12) v1.toNat) (hps : ∀ i : Nat, (i : Int) < v6 → gI σ (ra 122) i < gI σ (jx ja 12) v1.toNat) (hpt : PtI ra rm σ b A) (hA : 1000000 ≤ A ∧ A ≤ 2000000) (hv : 0 ≤ v4.toInt ∧ v4.toInt ≤ A + 1000) {Q : Sg → Int → Prop} {X : Sg → String → Prop} (hQ : ∀ (σ' : Sg) (r : Int), Rg ra jx rm σ' → Fr ra jx rm [20, 82, 115, 116, 121, 122] [21, 117] σ σ' → (PtI ra rm σ' b A ∧ (0 ≤ r ∧ r ≤ v6 + 1 ∧ (∀ i : Nat, (i : Int) < r → gI σ' (ra 122) i < gI σ (jx ja 12) v1.toNat))) → Q σ' r) (hX : ∀ (σ' : Sg) (E : String), Rg ra jx rm σ' → Fr ra jx rm [20, 82, 115, 116, 121, 122] [21, 117] σ σ' → (E = "StreamHouseModel$Broken") → X σ' E) : wp_X16_matchOne ra jx rm v1 v2 v4 v6 σ Q X := by
  obtain ⟨g1, g2, g3, g4, g5, g6, g7, g8⟩ := id g
  have fσ : Fr ra jx rm [20, 82, 115, 116, 121, 122] [21, 117] σ σ := Fr.rf
  have pt9 := hpt
  unfold wp_X16_matchOne
  unfold w_X16_matchOne_0
  try simp only [forall_eq, rII, rIJ, rIP, rJJ, rJI, rJP, rPP, rPI, rPJ, g1, g2, g3, g4, g5, g6, g7, g8, Nat.reduceEqDiff, Nat.reduceAdd, false_and, and_false, true_and, and_true, reduceIte, nZ0, nZ1]
  have q1 := rσ.2.2.1 ja 12 (v1.toNat); simp only [rgJ] at q1
  have L6 : ∀ (fu6 : Nat) (τ6 : Sg) (v7 : Int) (v8 : Int), Rg ra jx rm τ6 → Fr ra jx rm [20, 82, 115, 116, 121, 122] [21, 117] σ τ6 → (PtI ra rm τ6 b A ∧ (0 ≤ v8 ∧ v8 ≤ v6 ∧ 0 ≤ v7 ∧ v7 ≤ v8 ∧ (∀ i : Nat, (i : Int) < v7 ∨ v8 ≤ (i : Int) ∧ (i : Int) < v6 → gI τ6 (ra 122) i < gI σ (jx ja 12) v1.toNat))) → ((v6 - v8).toNat) < fu6 → wl_X16_matchOne_6 ra jx rm Q X fu6 τ6 v1 v2 v4 v6 v7 v8 := by
    intro fu6
    induction fu6 with
    | zero => intro τ6 _ _ _ _ _ h9; omega
    | succ fu6 ih6 =>
      intro τ6 v7 v8 rτ6 fτ6 hi6 hm6
      unfold wl_X16_matchOne_6
      have jτ6 := fτ6.2.2.1
      have pτ6 := fτ6.2.2.2
      unfold w_X16_matchOne_6
      try simp only [forall_eq, rII, rIJ, rIP, rJJ, rJI, rJP, rPP, rPI, rPJ, g1, g2, g3, g4, g5, g6, g7, g8, Nat.reduceEqDiff, Nat.reduceAdd, false_and, and_false, true_and, and_true, reduceIte, nZ0, nZ1, fun a k => (jτ6 a k).1, fun a k => (jτ6 a k).2, pτ6]
      obtain ⟨pt9, hi6⟩ := hi6
      have hw9 := hi6.2.2.2.2
      have i61 := hi6.1; have i62 := hi6.2.1; have i63 := hi6.2.2.1; have i64 := hi6.2.2.2.1; clear hi6
      split
      · rename_i hc10
        skip
        unfold w_X16_matchOne_205
        try simp only [forall_eq, rII, rIJ, rIP, rJJ, rJI, rJP, rPP, rPI, rPJ, g1, g2, g3, g4, g5, g6, g7, g8, Nat.reduceEqDiff, Nat.reduceAdd, false_and, and_false, true_and, and_true, reduceIte, nZ0, nZ1, fun a k => (jτ6 a k).1, fun a k => (jτ6 a k).2, pτ6]
        refine ⟨ja, by exact hj, hja, ?_⟩
        refine ⟨by (first | omega | with_reducible assumption | (unfold rng; omega) | (unfold rng; (repeat' split) <;> omega)), ?_⟩
        refine ⟨by (first | omega | with_reducible assumption | (unfold rng; omega) | (unfold rng; (repeat' split) <;> omega)), ?_⟩
        have q2 := rσ.2.2.1 ja 13 ((8 * v1).toNat); simp only [rgJ] at q2
        refine s_X16_worth (b5 := (ra 81)) (n5 := 8) g rτ6 rfl (Or.inl ⟨81, rfl, by decide⟩) (by first | exact hj | (rw [fτ6.2.2.2]; exact hj)) hja (by (try simp only [rII, rIJ, rIP, rJJ, rJI, rJP, rPP, rPI, rPJ, g1, g2, g3, g4, g5, g6, g7, g8, Nat.reduceEqDiff, Nat.reduceAdd, false_and, and_false, true_and, and_true, reduceIte, nZ0, nZ1, fun a k => (jτ6 a k).1, fun a k => (jτ6 a k).2, pτ6]) <;> first | exact PO.fr (hvs _ (by omega) (by omega)) hja fτ6 (by decide) | (have w8 := hvs 0 (by omega) (by omega); rw [show 8 * v1 + 0 = 8 * v1 by omega] at w8; exact PO.fr w8 hja fτ6 (by decide))) (by (try simp only [rII, rIJ, rIP, rJJ, rJI, rJP, rPP, rPI, rPJ, g1, g2, g3, g4, g5, g6, g7, g8, Nat.reduceEqDiff, Nat.reduceAdd, false_and, and_false, true_and, and_true, reduceIte, nZ0, nZ1, fun a k => (jτ6 a k).1, fun a k => (jτ6 a k).2, pτ6]) <;> (first | omega | with_reducible assumption | (unfold rng; omega) | (unfold rng; (repeat' split) <;> omega))) (by (try simp only [rII, rIJ, rIP, rJJ, rJI, rJP, rPP, rPI, rPJ, g1, g2, g3, g4, g5, g6, g7, g8, Nat.reduceEqDiff, Nat.reduceAdd, false_and, and_false, true_and, and_true, reduceIte, nZ0, nZ1, fun a k => (jτ6 a k).1, fun a k => (jτ6 a k).2, pτ6]) <;> (first | omega | with_reducible assumption | (unfold rng; omega) | (unfold rng; (repeat' split) <;> omega))) (fun σ36 r37 rσ36 fc p3 => ?_)
        have fσ36 : Fr ra jx rm [20, 82, 115, 116, 121, 122] [21, 117] σ σ36 := Fr.tr fτ6 (Fr.mor (fc) (by decide) (by decide))
        have pt9 := PtI.fr (PtI.fr (jx := jx) (K := [82, 121, 122]) (S := []) pt9 (by repeat (first | exact Fr.rf | assumption | refine Fr.aJ g ?_ (by decide) | refine Fr.aI g ?_ (by decide) | refine Fr.sI g ?_ (by decide) | refine Fr.sJ g ?_ (by decide))) (by decide) (by decide)) fc (by decide) (by decide)
        have hx9 := fun i : Nat => congrFun (fc.1 122 (by decide)).1 i
        have hw9 : ∀ i : Nat, (i : Int) < v7 ∨ v8 ≤ (i : Int) ∧ (i : Int) < v6 → gI σ36 (ra 122) i < gI σ (jx ja 12) v1.toNat := fun i hi => by rw [hx9]; exact hw9 i hi
        have jσ36 := fσ36.2.2.1
        have pσ36 := fσ36.2.2.2
        try simp only [forall_eq, rII, rIJ, rIP, rJJ, rJI, rJP, rPP, rPI, rPJ, g1, g2, g3, g4, g5, g6, g7, g8, Nat.reduceEqDiff, Nat.reduceAdd, false_and, and_false, true_and, and_true, reduceIte, nZ0, nZ1, fun a k => (jσ36 a k).1, fun a k => (jσ36 a k).2, pσ36]
        split
        · rename_i hc234
          skip
          unfold w_X16_matchOne_257
          try simp only [forall_eq, rII, rIJ, rIP, rJJ, rJI, rJP, rPP, rPI, rPJ, g1, g2, g3, g4, g5, g6, g7, g8, Nat.reduceEqDiff, Nat.reduceAdd, false_and, and_false, true_and, and_true, reduceIte, nZ0, nZ1, fun a k => (jσ36 a k).1, fun a k => (jσ36 a k).2, pσ36]
          refine hQ _ _ ?_ ?_ ?_
          · exact rσ36
          · exact fσ36
          · refine ⟨(by first | exact pt9 | exact PtI.fr (jx := jx) (K := [82, 121, 122]) (S := []) pt9 (by repeat (first | exact Fr.rf | assumption | refine Fr.aJ g ?_ (by decide) | refine Fr.aI g ?_ (by decide) | refine Fr.sI g ?_ (by decide) | refine Fr.sJ g ?_ (by decide))) (by decide) (by decide)), ?_⟩; exact (by refine ⟨by omega, by omega, fun i hi => ?_⟩ <;> (try simp only [rII, rIJ, rIP, rJJ, rJI, rJP, rPP, rPI, rPJ, g1, g2, g3, g4, g5, g6, g7, g8, Nat.reduceEqDiff, Nat.reduceAdd, false_and, and_false, true_and, and_true, reduceIte, nZ0, nZ1, fun a k => (jσ36 a k).1, fun a k => (jσ36 a k).2, pσ36]) <;> first | exact hw9 i (by omega) | (split <;> first | omega | exact hw9 i (by omega)))
        · rename_i hc234
          skip
          unfold w_X16_matchOne_237
          try simp only [forall_eq, rII, rIJ, rIP, rJJ, rJI, rJP, rPP, rPI, rPJ, g1, g2, g3, g4, g5, g6, g7, g8, Nat.reduceEqDiff, Nat.reduceAdd, false_and, and_false, true_and, and_true, reduceIte, nZ0, nZ1, fun a k => (jσ36 a k).1, fun a k => (jσ36 a k).2, pσ36]
          refine ⟨by (first | omega | with_reducible assumption | (unfold rng; omega) | (unfold rng; (repeat' split) <;> omega)), ?_⟩
          refine ⟨by (first | omega | with_reducible assumption | (unfold rng; omega) | (unfold rng; (repeat' split) <;> omega)), ?_⟩
          refine ⟨by (first | omega | with_reducible assumption | (unfold rng; omega) | (unfold rng; (repeat' split) <;> omega)), ?_⟩
          unfold w_X16_matchOne_257
          try simp only [forall_eq, rII, rIJ, rIP, rJJ, rJI, rJP, rPP, rPI, rPJ, g1, g2, g3, g4, g5, g6, g7, g8, Nat.reduceEqDiff, Nat.reduceAdd, false_and, and_false, true_and, and_true, reduceIte, nZ0, nZ1, fun a k => (jσ36 a k).1, fun a k => (jσ36 a k).2, pσ36]
          refine hQ _ _ ?_ ?_ ?_
          · refine Rg.aI g ?_ (by simp only [rgT]; first | with_reducible exact nZ_rng _ | with_reducible exact nB_rng _ | with_reducible exact wr_rng _ | with_reducible exact i32any _ | (first | omega | with_reducible assumption | (unfold rng; omega) | (unfold rng; (repeat' split) <;> omega))); refine Rg.aJ g ?_ (by simp only [rlT]; first | with_reducible assumption | omega | exact Int64.toInt_le _ | (rw [Int64.toInt_ofInt_of_le (by omega) (by omega)]; omega) | grind); exact rσ36
          · refine Fr.aI g ?_ (by decide); refine Fr.aJ g ?_ (by decide); exact fσ36
          · refine ⟨(by first | exact pt9 | exact PtI.fr (jx := jx) (K := [82, 121, 122]) (S := []) pt9 (by repeat (first | exact Fr.rf | assumption | refine Fr.aJ g ?_ (by decide) | refine Fr.aI g ?_ (by decide) | refine Fr.sI g ?_ (by decide) | refine Fr.sJ g ?_ (by decide))) (by decide) (by decide)), ?_⟩; exact (by refine ⟨by omega, by omega, fun i hi => ?_⟩ <;> (try simp only [rII, rIJ, rIP, rJJ, rJI, rJP, rPP, rPI, rPJ, g1, g2, g3, g4, g5, g6, g7, g8, Nat.reduceEqDiff, Nat.reduceAdd, false_and, and_false, true_and, and_true, reduceIte, nZ0, nZ1, fun a k => (jσ36 a k).1, fun a k => (jσ36 a k).2, pσ36]) <;> first | exact hw9 i (by omega) | (split <;> first | omega | exact hw9 i (by omega)))
      · rename_i hc10
        skip
        unfold w_X16_matchOne_13
        try simp only [forall_eq, rII, rIJ, rIP, rJJ, rJI, rJP, rPP, rPI, rPJ, g1, g2, g3, g4, g5, g6, g7, g8, Nat.reduceEqDiff, Nat.reduceAdd, false_and, and_false, true_and, and_true, reduceIte, nZ0, nZ1, fun a k => (jτ6 a k).1, fun a k => (jτ6 a k).2, pτ6]
        have hst := hw9 v8.toNat (Or.inr ⟨by omega, by omega⟩)
        refine ⟨by (first | omega | with_reducible assumption | (unfold rng; omega) | (unfold rng; (repeat' split) <;> omega)), ?_⟩
        refine ⟨ja, by exact hj, hja, ?_⟩
        refine ⟨by (first | omega | with_reducible assumption | (unfold rng; omega) | (unfold rng; (repeat' split) <;> omega)), ?_⟩
        split
        · rename_i hc33
          skip
          unfold w_X16_matchOne_39
          try simp only [forall_eq, rII, rIJ, rIP, rJJ, rJI, rJP, rPP, rPI, rPJ, g1, g2, g3, g4, g5, g6, g7, g8, Nat.reduceEqDiff, Nat.reduceAdd, false_and, and_false, true_and, and_true, reduceIte, nZ0, nZ1, fun a k => (jτ6 a k).1, fun a k => (jτ6 a k).2, pτ6]
          refine ⟨by (first | omega | with_reducible assumption | (unfold rng; omega) | (unfold rng; (repeat' split) <;> omega)), ?_⟩
          refine ⟨ja, by exact hj, hja, ?_⟩
          refine ⟨by (first | omega | with_reducible assumption | (unfold rng; omega) | (unfold rng; (repeat' split) <;> omega)), ?_⟩
          have q4 := rτ6.1 122 (v8.toNat); simp only [rgT] at q4
          refine ⟨by (first | omega | with_reducible assumption | (unfold rng; omega) | (unfold rng; (repeat' split) <;> omega)), ?_⟩
          refine ⟨by (first | omega | with_reducible assumption | (unfold rng; omega) | (unfold rng; (repeat' split) <;> omega)), ?_⟩
          have q5 := rσ.2.2.1 ja 13 (((8 * v1) + (gI τ6 (ra 122) v8.toNat)).toNat); simp only [rgJ] at q5
          refine s_X16_worth (b5 := (ra 81)) (n5 := 8) g rτ6 rfl (Or.inl ⟨81, rfl, by decide⟩) (by first | exact hj | (rw [fτ6.2.2.2]; exact hj)) hja (by (try simp only [rII, rIJ, rIP, rJJ, rJI, rJP, rPP, rPI, rPJ, g1, g2, g3, g4, g5, g6, g7, g8, Nat.reduceEqDiff, Nat.reduceAdd, false_and, and_false, true_and, and_true, reduceIte, nZ0, nZ1, fun a k => (jτ6 a k).1, fun a k => (jτ6 a k).2, pτ6]) <;> first | exact PO.fr (hvs _ (by omega) (by omega)) hja fτ6 (by decide) | (have w8 := hvs 0 (by omega) (by omega); rw [show 8 * v1 + 0 = 8 * v1 by omega] at w8; exact PO.fr w8 hja fτ6 (by decide))) (by (try simp only [rII, rIJ, rIP, rJJ, rJI, rJP, rPP, rPI, rPJ, g1, g2, g3, g4, g5, g6, g7, g8, Nat.reduceEqDiff, Nat.reduceAdd, false_and, and_false, true_and, and_true, reduceIte, nZ0, nZ1, fun a k => (jτ6 a k).1, fun a k => (jτ6 a k).2, pτ6]) <;> (first | omega | with_reducible assumption | (unfold rng; omega) | (unfold rng; (repeat' split) <;> omega))) (by (try simp only [rII, rIJ, rIP, rJJ, rJI, rJP, rPP, rPI, rPJ, g1, g2, g3, g4, g5, g6, g7, g8, Nat.reduceEqDiff, Nat.reduceAdd, false_and, and_false, true_and, and_true, reduceIte, nZ0, nZ1, fun a k => (jτ6 a k).1, fun a k => (jτ6 a k).2, pτ6]) <;> (first | omega | with_reducible assumption | (unfold rng; omega) | (unfold rng; (repeat' split) <;> omega))) (fun σ42 r43 rσ42 fc p6 => ?_)
          have fσ42 : Fr ra jx rm [20, 82, 115, 116, 121, 122] [21, 117] σ σ42 := Fr.tr fτ6 (Fr.mor (fc) (by decide) (by decide))
          have pt9 := PtI.fr (PtI.fr (jx := jx) (K := [82, 121, 122]) (S := []) pt9 (by repeat (first | exact Fr.rf | assumption | refine Fr.aJ g ?_ (by decide) | refine Fr.aI g ?_ (by decide) | refine Fr.sI g ?_ (by decide) | refine Fr.sJ g ?_ (by decide))) (by decide) (by decide)) fc (by decide) (by decide)
          have hx9 := fun i : Nat => congrFun (fc.1 122 (by decide)).1 i
          have hw9 : ∀ i : Nat, (i : Int) < v7 ∨ v8 ≤ (i : Int) ∧ (i : Int) < v6 → gI σ42 (ra 122) i < gI σ (jx ja 12) v1.toNat := fun i hi => by rw [hx9]; exact hw9 i hi
          have jσ42 := fσ42.2.2.1
          have pσ42 := fσ42.2.2.2
          try simp only [forall_eq, rII, rIJ, rIP, rJJ, rJI, rJP, rPP, rPI, rPJ, g1, g2, g3, g4, g5, g6, g7, g8, Nat.reduceEqDiff, Nat.reduceAdd, false_and, and_false, true_and, and_true, reduceIte, nZ0, nZ1, fun a k => (jσ42 a k).1, fun a k => (jσ42 a k).2, pσ42]
          split
          · rename_i hc82
            skip
            unfold w_X16_matchOne_89
            try simp only [forall_eq, rII, rIJ, rIP, rJJ, rJI, rJP, rPP, rPI, rPJ, g1, g2, g3, g4, g5, g6, g7, g8, Nat.reduceEqDiff, Nat.reduceAdd, false_and, and_false, true_and, and_true, reduceIte, nZ0, nZ1, fun a k => (jσ42 a k).1, fun a k => (jσ42 a k).2, pσ42]
            unfold w_X16_matchOne_90
            try simp only [forall_eq, rII, rIJ, rIP, rJJ, rJI, rJP, rPP, rPI, rPJ, g1, g2, g3, g4, g5, g6, g7, g8, Nat.reduceEqDiff, Nat.reduceAdd, false_and, and_false, true_and, and_true, reduceIte, nZ0, nZ1, fun a k => (jσ42 a k).1, fun a k => (jσ42 a k).2, pσ42]
            refine ⟨by (first | omega | with_reducible assumption | (unfold rng; omega) | (unfold rng; (repeat' split) <;> omega)), ?_⟩
            refine ⟨ja, by exact hj, hja, ?_⟩
            refine ⟨by (first | omega | with_reducible assumption | (unfold rng; omega) | (unfold rng; (repeat' split) <;> omega)), ?_⟩
            split
            · rename_i hc104
              skip
              unfold w_X16_matchOne_173
              try simp only [forall_eq, rII, rIJ, rIP, rJJ, rJI, rJP, rPP, rPI, rPJ, g1, g2, g3, g4, g5, g6, g7, g8, Nat.reduceEqDiff, Nat.reduceAdd, false_and, and_false, true_and, and_true, reduceIte, nZ0, nZ1, fun a k => (jσ42 a k).1, fun a k => (jσ42 a k).2, pσ42]
              refine ⟨by (first | omega | with_reducible assumption | (unfold rng; omega) | (unfold rng; (repeat' split) <;> omega)), ?_⟩
              refine ⟨by (first | omega | with_reducible assumption | (unfold rng; omega) | (unfold rng; (repeat' split) <;> omega)), ?_⟩
              refine ⟨by (first | omega | with_reducible assumption | (unfold rng; omega) | (unfold rng; (repeat' split) <;> omega)), ?_⟩
              refine ⟨by (first | omega | with_reducible assumption | (unfold rng; omega) | (unfold rng; (repeat' split) <;> omega)), ?_⟩
              unfold w_X16_matchOne_199
              try simp only [forall_eq, rII, rIJ, rIP, rJJ, rJI, rJP, rPP, rPI, rPJ, g1, g2, g3, g4, g5, g6, g7, g8, Nat.reduceEqDiff, Nat.reduceAdd, false_and, and_false, true_and, and_true, reduceIte, nZ0, nZ1, fun a k => (jσ42 a k).1, fun a k => (jσ42 a k).2, pσ42]
              refine ⟨by (first | omega | with_reducible assumption | (unfold rng; omega) | (unfold rng; (repeat' split) <;> omega)), ?_⟩
              refine ih6 _ _ _ ?_ ?_ ?_ ?_
              · refine Rg.aI g ?_ (by simp only [rgT]; first | with_reducible exact nZ_rng _ | with_reducible exact nB_rng _ | with_reducible exact wr_rng _ | with_reducible exact i32any _ | (first | omega | with_reducible assumption | (unfold rng; omega) | (unfold rng; (repeat' split) <;> omega))); refine Rg.aJ g ?_ (by simp only [rlT]; first | with_reducible assumption | omega | exact Int64.toInt_le _ | (rw [Int64.toInt_ofInt_of_le (by omega) (by omega)]; omega) | grind); exact rσ42
              · refine Fr.aI g ?_ (by decide); refine Fr.aJ g ?_ (by decide); exact fσ42
              · refine ⟨?_, ?_⟩; exact (by first | exact pt9 | exact PtI.fr (jx := jx) (K := [82, 121, 122]) (S := []) pt9 (by repeat (first | exact Fr.rf | assumption | refine Fr.aJ g ?_ (by decide) | refine Fr.aI g ?_ (by decide) | refine Fr.sI g ?_ (by decide) | refine Fr.sJ g ?_ (by decide))) (by decide) (by decide)); exact (by refine ⟨by omega, by omega, by omega, by omega, fun i hi => ?_⟩ <;> (try simp only [rII, rIJ, rIP, rJJ, rJI, rJP, rPP, rPI, rPJ, g1, g2, g3, g4, g5, g6, g7, g8, Nat.reduceEqDiff, Nat.reduceAdd, false_and, and_false, true_and, and_true, reduceIte, nZ0, nZ1, fun a k => (jσ42 a k).1, fun a k => (jσ42 a k).2, pσ42]) <;> first | exact hps i (by omega) | exact hw9 i (by omega) | (split <;> first | omega | exact hw9 i (by omega)))
              · (try simp only [rII, rIJ, rIP, rJJ, rJI, rJP, rPP, rPI, rPJ, g1, g2, g3, g4, g5, g6, g7, g8, Nat.reduceEqDiff, Nat.reduceAdd, false_and, and_false, true_and, and_true, reduceIte, nZ0, nZ1, fun a k => (jσ42 a k).1, fun a k => (jσ42 a k).2, pσ42]) <;> (first | omega | with_reducible assumption | (unfold rng; omega) | (unfold rng; (repeat' split) <;> omega))
            · rename_i hc104
              skip
              unfold w_X16_matchOne_107
              try simp only [forall_eq, rII, rIJ, rIP, rJJ, rJI, rJP, rPP, rPI, rPJ, g1, g2, g3, g4, g5, g6, g7, g8, Nat.reduceEqDiff, Nat.reduceAdd, false_and, and_false, true_and, and_true, reduceIte, nZ0, nZ1, fun a k => (jσ42 a k).1, fun a k => (jσ42 a k).2, pσ42]
              have L110 : ∀ (fu110 : Nat) (τ110 : Sg) (v10 : Int), Rg ra jx rm τ110 → Fr ra jx rm [20, 82, 115, 116, 121, 122] [21, 117] σ τ110 → (PtI ra rm τ110 b A ∧ (0 ≤ v10 ∧ v10 ≤ 8 ∧ (∀ i : Nat, (i : Int) < v7 ∨ v8 ≤ (i : Int) ∧ (i : Int) < v6 → gI τ110 (ra 122) i < gI σ (jx ja 12) v1.toNat))) → ((8 - v10).toNat) < fu110 → wl_X16_matchOne_110 ra jx rm (wl_X16_matchOne_6 ra jx rm Q X fu6) Q X fu110 τ110 v1 v2 v4 v6 v7 v8 v10 := by
                intro fu110
                induction fu110 with
                | zero => intro τ110 _ _ _ _ h9; omega
                | succ fu110 ih110 =>
                  intro τ110 v10 rτ110 fτ110 hi110 hm110
                  unfold wl_X16_matchOne_110
                  have jτ110 := fτ110.2.2.1
                  have pτ110 := fτ110.2.2.2
                  unfold w_X16_matchOne_110
                  try simp only [forall_eq, rII, rIJ, rIP, rJJ, rJI, rJP, rPP, rPI, rPJ, g1, g2, g3, g4, g5, g6, g7, g8, Nat.reduceEqDiff, Nat.reduceAdd, false_and, and_false, true_and, and_true, reduceIte, nZ0, nZ1, fun a k => (jτ110 a k).1, fun a k => (jτ110 a k).2, pτ110]
                  obtain ⟨pt9, hi110⟩ := hi110
                  have hw9 := hi110.2.2
                  split
                  · rename_i hc114
                    skip
                    unfold w_X16_matchOne_131
                    try simp only [forall_eq, rII, rIJ, rIP, rJJ, rJI, rJP, rPP, rPI, rPJ, g1, g2, g3, g4, g5, g6, g7, g8, Nat.reduceEqDiff, Nat.reduceAdd, false_and, and_false, true_and, and_true, reduceIte, nZ0, nZ1, fun a k => (jτ110 a k).1, fun a k => (jτ110 a k).2, pτ110]
                    refine ⟨by (first | omega | with_reducible assumption | (unfold rng; omega) | (unfold rng; (repeat' split) <;> omega)), ?_⟩
                    refine s2_X16_pass (b3 := (ra 82)) (n3 := 16) g (by refine Rg.aJ g ?_ (by simp only [rlT]; first | with_reducible assumption | omega | exact Int64.toInt_le _ | (rw [Int64.toInt_ofInt_of_le (by omega) (by omega)]; omega) | grind); refine Rg.aJ g ?_ (by simp only [rlT]; first | with_reducible assumption | omega | exact Int64.toInt_le _ | (rw [Int64.toInt_ofInt_of_le (by omega) (by omega)]; omega) | grind); refine Rg.aJ g ?_ (by simp only [rlT]; first | with_reducible assumption | omega | exact Int64.toInt_le _ | (rw [Int64.toInt_ofInt_of_le (by omega) (by omega)]; omega) | grind); exact rτ110) rfl (Or.inl ⟨82, rfl, by decide⟩) (by (try simp only [rII, rIJ, rIP, rJJ, rJI, rJP, rPP, rPI, rPJ, g1, g2, g3, g4, g5, g6, g7, g8, Nat.reduceEqDiff, Nat.reduceAdd, false_and, and_false, true_and, and_true, reduceIte, nZ0, nZ1, fun a k => (jτ110 a k).1, fun a k => (jτ110 a k).2, pτ110]) <;> (first | omega | with_reducible assumption | (unfold rng; omega) | (unfold rng; (repeat' split) <;> omega))) (by (try simp only [rII, rIJ, rIP, rJJ, rJI, rJP, rPP, rPI, rPJ, g1, g2, g3, g4, g5, g6, g7, g8, Nat.reduceEqDiff, Nat.reduceAdd, false_and, and_false, true_and, and_true, reduceIte, nZ0, nZ1, fun a k => (jτ110 a k).1, fun a k => (jτ110 a k).2, pτ110]) <;> (first | omega | with_reducible assumption | (unfold rng; omega) | (unfold rng; (repeat' split) <;> omega))) (by first | exact pt9 | exact PtI.fr (jx := jx) (K := [82, 121, 122]) (S := []) pt9 (by repeat (first | exact Fr.rf | assumption | refine Fr.aJ g ?_ (by decide) | refine Fr.aI g ?_ (by decide) | refine Fr.sI g ?_ (by decide) | refine Fr.sJ g ?_ (by decide))) (by decide) (by decide)) hA hv (fun σ50 _ rσ50 fc p7 => ?_) (fun σx E rx fx px => hX _ _ rx (Fr.tr (by refine Fr.aJ g ?_ (by decide); refine Fr.aJ g ?_ (by decide); refine Fr.aJ g ?_ (by decide); exact fτ110) (Fr.mor (fx) (by decide) (by decide))) px)
                    have fσ50 : Fr ra jx rm [20, 82, 115, 116, 121, 122] [21, 117] σ σ50 := Fr.tr (by refine Fr.aJ g ?_ (by decide); refine Fr.aJ g ?_ (by decide); refine Fr.aJ g ?_ (by decide); exact fτ110) (Fr.mor (fc) (by decide) (by decide))
                    have pt9 := p7.1
                    have hw9 : ∀ i : Nat, (i : Int) < v7 ∨ v8 ≤ (i : Int) ∧ (i : Int) < v6 → gI σ50 (ra 122) i < gI σ (jx ja 12) v1.toNat := fun i hi => by rw [congrFun (fc.1 122 (by decide)).1 i]; exact hw9 i hi
                    have jσ50 := fσ50.2.2.1
                    have pσ50 := fσ50.2.2.2
                    try simp only [forall_eq, rII, rIJ, rIP, rJJ, rJI, rJP, rPP, rPI, rPJ, g1, g2, g3, g4, g5, g6, g7, g8, Nat.reduceEqDiff, Nat.reduceAdd, false_and, and_false, true_and, and_true, reduceIte, nZ0, nZ1, fun a k => (jσ50 a k).1, fun a k => (jσ50 a k).2, pσ50]
                    unfold w_X16_matchOne_199
                    try simp only [forall_eq, rII, rIJ, rIP, rJJ, rJI, rJP, rPP, rPI, rPJ, g1, g2, g3, g4, g5, g6, g7, g8, Nat.reduceEqDiff, Nat.reduceAdd, false_and, and_false, true_and, and_true, reduceIte, nZ0, nZ1, fun a k => (jσ50 a k).1, fun a k => (jσ50 a k).2, pσ50]
                    refine ⟨by (first | omega | with_reducible assumption | (unfold rng; omega) | (unfold rng; (repeat' split) <;> omega)), ?_⟩
                    refine ih6 _ _ _ ?_ ?_ ?_ ?_
                    · exact rσ50
                    · exact fσ50
                    · refine ⟨?_, ?_⟩; exact (by first | exact pt9 | exact PtI.fr (jx := jx) (K := [82, 121, 122]) (S := []) pt9 (by repeat (first | exact Fr.rf | assumption | refine Fr.aJ g ?_ (by decide) | refine Fr.aI g ?_ (by decide) | refine Fr.sI g ?_ (by decide) | refine Fr.sJ g ?_ (by decide))) (by decide) (by decide)); exact (by refine ⟨by omega, by omega, by omega, by omega, fun i hi => ?_⟩ <;> (try simp only [rII, rIJ, rIP, rJJ, rJI, rJP, rPP, rPI, rPJ, g1, g2, g3, g4, g5, g6, g7, g8, Nat.reduceEqDiff, Nat.reduceAdd, false_and, and_false, true_and, and_true, reduceIte, nZ0, nZ1, fun a k => (jσ50 a k).1, fun a k => (jσ50 a k).2, pσ50]) <;> first | exact hps i (by omega) | exact hw9 i (by omega) | (split <;> first | omega | exact hw9 i (by omega)))
                    · (try simp only [rII, rIJ, rIP, rJJ, rJI, rJP, rPP, rPI, rPJ, g1, g2, g3, g4, g5, g6, g7, g8, Nat.reduceEqDiff, Nat.reduceAdd, false_and, and_false, true_and, and_true, reduceIte, nZ0, nZ1, fun a k => (jσ50 a k).1, fun a k => (jσ50 a k).2, pσ50]) <;> (first | omega | with_reducible assumption | (unfold rng; omega) | (unfold rng; (repeat' split) <;> omega))
                  · rename_i hc114
                    skip
                    unfold w_X16_matchOne_117
                    try simp only [forall_eq, rII, rIJ, rIP, rJJ, rJI, rJP, rPP, rPI, rPJ, g1, g2, g3, g4, g5, g6, g7, g8, Nat.reduceEqDiff, Nat.reduceAdd, false_and, and_false, true_and, and_true, reduceIte, nZ0, nZ1, fun a k => (jτ110 a k).1, fun a k => (jτ110 a k).2, pτ110]
                    refine ⟨by (first | omega | with_reducible assumption | (unfold rng; omega) | (unfold rng; (repeat' split) <;> omega)), ?_⟩
                    refine ⟨by (first | omega | with_reducible assumption | (unfold rng; omega) | (unfold rng; (repeat' split) <;> omega)), ?_⟩
                    refine ih110 _ _ ?_ ?_ ?_ ?_
                    · refine Rg.aJ g ?_ (by simp only [rlT]; first | with_reducible assumption | omega | exact Int64.toInt_le _ | (rw [Int64.toInt_ofInt_of_le (by omega) (by omega)]; omega) | grind); exact rτ110
                    · refine Fr.aJ g ?_ (by decide); exact fτ110
                    · refine ⟨?_, ?_⟩; exact (by first | exact pt9 | exact PtI.fr (jx := jx) (K := [82, 121, 122]) (S := []) pt9 (by repeat (first | exact Fr.rf | assumption | refine Fr.aJ g ?_ (by decide) | refine Fr.aI g ?_ (by decide) | refine Fr.sI g ?_ (by decide) | refine Fr.sJ g ?_ (by decide))) (by decide) (by decide)); exact (by exact ⟨by omega, by omega, fun i hi => hw9 i hi⟩)
                    · (try simp only [rII, rIJ, rIP, rJJ, rJI, rJP, rPP, rPI, rPJ, g1, g2, g3, g4, g5, g6, g7, g8, Nat.reduceEqDiff, Nat.reduceAdd, false_and, and_false, true_and, and_true, reduceIte, nZ0, nZ1, fun a k => (jτ110 a k).1, fun a k => (jτ110 a k).2, pτ110]) <;> (first | omega | with_reducible assumption | (unfold rng; omega) | (unfold rng; (repeat' split) <;> omega))
              refine ⟨_, L110 _ _ _ ?_ ?_ ?_ (Nat.lt_succ_self _)⟩
              · exact rσ42
              · exact fσ42
              · refine ⟨?_, ?_⟩; exact (by first | exact pt9 | exact PtI.fr (jx := jx) (K := [82, 121, 122]) (S := []) pt9 (by repeat (first | exact Fr.rf | assumption | refine Fr.aJ g ?_ (by decide) | refine Fr.aI g ?_ (by decide) | refine Fr.sI g ?_ (by decide) | refine Fr.sJ g ?_ (by decide))) (by decide) (by decide)); exact (by exact ⟨by omega, by omega, fun i hi => hw9 i hi⟩)
          · rename_i hc82
            skip
            unfold w_X16_matchOne_85
            try simp only [forall_eq, rII, rIJ, rIP, rJJ, rJI, rJP, rPP, rPI, rPJ, g1, g2, g3, g4, g5, g6, g7, g8, Nat.reduceEqDiff, Nat.reduceAdd, false_and, and_false, true_and, and_true, reduceIte, nZ0, nZ1, fun a k => (jσ42 a k).1, fun a k => (jσ42 a k).2, pσ42]
            unfold w_X16_matchOne_90
            try simp only [forall_eq, rII, rIJ, rIP, rJJ, rJI, rJP, rPP, rPI, rPJ, g1, g2, g3, g4, g5, g6, g7, g8, Nat.reduceEqDiff, Nat.reduceAdd, false_and, and_false, true_and, and_true, reduceIte, nZ0, nZ1, fun a k => (jσ42 a k).1, fun a k => (jσ42 a k).2, pσ42]
            refine ⟨by (first | omega | with_reducible assumption | (unfold rng; omega) | (unfold rng; (repeat' split) <;> omega)), ?_⟩
            refine ⟨ja, by exact hj, hja, ?_⟩
            refine ⟨by (first | omega | with_reducible assumption | (unfold rng; omega) | (unfold rng; (repeat' split) <;> omega)), ?_⟩
            split
            · rename_i hc104
              skip
              unfold w_X16_matchOne_173
              try simp only [forall_eq, rII, rIJ, rIP, rJJ, rJI, rJP, rPP, rPI, rPJ, g1, g2, g3, g4, g5, g6, g7, g8, Nat.reduceEqDiff, Nat.reduceAdd, false_and, and_false, true_and, and_true, reduceIte, nZ0, nZ1, fun a k => (jσ42 a k).1, fun a k => (jσ42 a k).2, pσ42]
              refine ⟨by (first | omega | with_reducible assumption | (unfold rng; omega) | (unfold rng; (repeat' split) <;> omega)), ?_⟩
              refine ⟨by (first | omega | with_reducible assumption | (unfold rng; omega) | (unfold rng; (repeat' split) <;> omega)), ?_⟩
              refine ⟨by (first | omega | with_reducible assumption | (unfold rng; omega) | (unfold rng; (repeat' split) <;> omega)), ?_⟩
              refine ⟨by (first | omega | with_reducible assumption | (unfold rng; omega) | (unfold rng; (repeat' split) <;> omega)), ?_⟩
              unfold w_X16_matchOne_199
              try simp only [forall_eq, rII, rIJ, rIP, rJJ, rJI, rJP, rPP, rPI, rPJ, g1, g2, g3, g4, g5, g6, g7, g8, Nat.reduceEqDiff, Nat.reduceAdd, false_and, and_false, true_and, and_true, reduceIte, nZ0, nZ1, fun a k => (jσ42 a k).1, fun a k => (jσ42 a k).2, pσ42]
              refine ⟨by (first | omega | with_reducible assumption | (unfold rng; omega) | (unfold rng; (repeat' split) <;> omega)), ?_⟩
              refine ih6 _ _ _ ?_ ?_ ?_ ?_
              · refine Rg.aI g ?_ (by simp only [rgT]; first | with_reducible exact nZ_rng _ | with_reducible exact nB_rng _ | with_reducible exact wr_rng _ | with_reducible exact i32any _ | (first | omega | with_reducible assumption | (unfold rng; omega) | (unfold rng; (repeat' split) <;> omega))); refine Rg.aJ g ?_ (by simp only [rlT]; first | with_reducible assumption | omega | exact Int64.toInt_le _ | (rw [Int64.toInt_ofInt_of_le (by omega) (by omega)]; omega) | grind); exact rσ42
              · refine Fr.aI g ?_ (by decide); refine Fr.aJ g ?_ (by decide); exact fσ42
              · refine ⟨?_, ?_⟩; exact (by first | exact pt9 | exact PtI.fr (jx := jx) (K := [82, 121, 122]) (S := []) pt9 (by repeat (first | exact Fr.rf | assumption | refine Fr.aJ g ?_ (by decide) | refine Fr.aI g ?_ (by decide) | refine Fr.sI g ?_ (by decide) | refine Fr.sJ g ?_ (by decide))) (by decide) (by decide)); exact (by refine ⟨by omega, by omega, by omega, by omega, fun i hi => ?_⟩ <;> (try simp only [rII, rIJ, rIP, rJJ, rJI, rJP, rPP, rPI, rPJ, g1, g2, g3, g4, g5, g6, g7, g8, Nat.reduceEqDiff, Nat.reduceAdd, false_and, and_false, true_and, and_true, reduceIte, nZ0, nZ1, fun a k => (jσ42 a k).1, fun a k => (jσ42 a k).2, pσ42]) <;> first | exact hps i (by omega) | exact hw9 i (by omega) | (split <;> first | omega | exact hw9 i (by omega)))
              · (try simp only [rII, rIJ, rIP, rJJ, rJI, rJP, rPP, rPI, rPJ, g1, g2, g3, g4, g5, g6, g7, g8, Nat.reduceEqDiff, Nat.reduceAdd, false_and, and_false, true_and, and_true, reduceIte, nZ0, nZ1, fun a k => (jσ42 a k).1, fun a k => (jσ42 a k).2, pσ42]) <;> (first | omega | with_reducible assumption | (unfold rng; omega) | (unfold rng; (repeat' split) <;> omega))
            · rename_i hc104
              skip
              unfold w_X16_matchOne_107
              try simp only [forall_eq, rII, rIJ, rIP, rJJ, rJI, rJP, rPP, rPI, rPJ, g1, g2, g3, g4, g5, g6, g7, g8, Nat.reduceEqDiff, Nat.reduceAdd, false_and, and_false, true_and, and_true, reduceIte, nZ0, nZ1, fun a k => (jσ42 a k).1, fun a k => (jσ42 a k).2, pσ42]
              have L110 : ∀ (fu110 : Nat) (τ110 : Sg) (v10 : Int), Rg ra jx rm τ110 → Fr ra jx rm [20, 82, 115, 116, 121, 122] [21, 117] σ τ110 → (PtI ra rm τ110 b A ∧ (0 ≤ v10 ∧ v10 ≤ 8 ∧ (∀ i : Nat, (i : Int) < v7 ∨ v8 ≤ (i : Int) ∧ (i : Int) < v6 → gI τ110 (ra 122) i < gI σ (jx ja 12) v1.toNat))) → ((8 - v10).toNat) < fu110 → wl_X16_matchOne_110 ra jx rm (wl_X16_matchOne_6 ra jx rm Q X fu6) Q X fu110 τ110 v1 v2 v4 v6 v7 v8 v10 := by
                intro fu110
                induction fu110 with
                | zero => intro τ110 _ _ _ _ h9; omega
                | succ fu110 ih110 =>
                  intro τ110 v10 rτ110 fτ110 hi110 hm110
                  unfold wl_X16_matchOne_110
                  have jτ110 := fτ110.2.2.1
                  have pτ110 := fτ110.2.2.2
                  unfold w_X16_matchOne_110
                  try simp only [forall_eq, rII, rIJ, rIP, rJJ, rJI, rJP, rPP, rPI, rPJ, g1, g2, g3, g4, g5, g6, g7, g8, Nat.reduceEqDiff, Nat.reduceAdd, false_and, and_false, true_and, and_true, reduceIte, nZ0, nZ1, fun a k => (jτ110 a k).1, fun a k => (jτ110 a k).2, pτ110]
                  obtain ⟨pt9, hi110⟩ := hi110
                  have hw9 := hi110.2.2
                  split
                  · rename_i hc114
                    skip
                    unfold w_X16_matchOne_131
                    try simp only [forall_eq, rII, rIJ, rIP, rJJ, rJI, rJP, rPP, rPI, rPJ, g1, g2, g3, g4, g5, g6, g7, g8, Nat.reduceEqDiff, Nat.reduceAdd, false_and, and_false, true_and, and_true, reduceIte, nZ0, nZ1, fun a k => (jτ110 a k).1, fun a k => (jτ110 a k).2, pτ110]
                    refine ⟨by (first | omega | with_reducible assumption | (unfold rng; omega) | (unfold rng; (repeat' split) <;> omega)), ?_⟩
                    refine s2_X16_pass (b3 := (ra 82)) (n3 := 16) g (by refine Rg.aJ g ?_ (by simp only [rlT]; first | with_reducible assumption | omega | exact Int64.toInt_le _ | (rw [Int64.toInt_ofInt_of_le (by omega) (by omega)]; omega) | grind); refine Rg.aJ g ?_ (by simp only [rlT]; first | with_reducible assumption | omega | exact Int64.toInt_le _ | (rw [Int64.toInt_ofInt_of_le (by omega) (by omega)]; omega) | grind); refine Rg.aJ g ?_ (by simp only [rlT]; first | with_reducible assumption | omega | exact Int64.toInt_le _ | (rw [Int64.toInt_ofInt_of_le (by omega) (by omega)]; omega) | grind); exact rτ110) rfl (Or.inl ⟨82, rfl, by decide⟩) (by (try simp only [rII, rIJ, rIP, rJJ, rJI, rJP, rPP, rPI, rPJ, g1, g2, g3, g4, g5, g6, g7, g8, Nat.reduceEqDiff, Nat.reduceAdd, false_and, and_false, true_and, and_true, reduceIte, nZ0, nZ1, fun a k => (jτ110 a k).1, fun a k => (jτ110 a k).2, pτ110]) <;> (first | omega | with_reducible assumption | (unfold rng; omega) | (unfold rng; (repeat' split) <;> omega))) (by (try simp only [rII, rIJ, rIP, rJJ, rJI, rJP, rPP, rPI, rPJ, g1, g2, g3, g4, g5, g6, g7, g8, Nat.reduceEqDiff, Nat.reduceAdd, false_and, and_false, true_and, and_true, reduceIte, nZ0, nZ1, fun a k => (jτ110 a k).1, fun a k => (jτ110 a k).2, pτ110]) <;> (first | omega | with_reducible assumption | (unfold rng; omega) | (unfold rng; (repeat' split) <;> omega))) (by first | exact pt9 | exact PtI.fr (jx := jx) (K := [82, 121, 122]) (S := []) pt9 (by repeat (first | exact Fr.rf | assumption | refine Fr.aJ g ?_ (by decide) | refine Fr.aI g ?_ (by decide) | refine Fr.sI g ?_ (by decide) | refine Fr.sJ g ?_ (by decide))) (by decide) (by decide)) hA hv (fun σ58 _ rσ58 fc p8 => ?_) (fun σx E rx fx px => hX _ _ rx (Fr.tr (by refine Fr.aJ g ?_ (by decide); refine Fr.aJ g ?_ (by decide); refine Fr.aJ g ?_ (by decide); exact fτ110) (Fr.mor (fx) (by decide) (by decide))) px)
                    have fσ58 : Fr ra jx rm [20, 82, 115, 116, 121, 122] [21, 117] σ σ58 := Fr.tr (by refine Fr.aJ g ?_ (by decide); refine Fr.aJ g ?_ (by decide); refine Fr.aJ g ?_ (by decide); exact fτ110) (Fr.mor (fc) (by decide) (by decide))
                    have pt9 := p8.1
                    have hw9 : ∀ i : Nat, (i : Int) < v7 ∨ v8 ≤ (i : Int) ∧ (i : Int) < v6 → gI σ58 (ra 122) i < gI σ (jx ja 12) v1.toNat := fun i hi => by rw [congrFun (fc.1 122 (by decide)).1 i]; exact hw9 i hi
                    have jσ58 := fσ58.2.2.1
                    have pσ58 := fσ58.2.2.2
                    try simp only [forall_eq, rII, rIJ, rIP, rJJ, rJI, rJP, rPP, rPI, rPJ, g1, g2, g3, g4, g5, g6, g7, g8, Nat.reduceEqDiff, Nat.reduceAdd, false_and, and_false, true_and, and_true, reduceIte, nZ0, nZ1, fun a k => (jσ58 a k).1, fun a k => (jσ58 a k).2, pσ58]
                    unfold w_X16_matchOne_199
                    try simp only [forall_eq, rII, rIJ, rIP, rJJ, rJI, rJP, rPP, rPI, rPJ, g1, g2, g3, g4, g5, g6, g7, g8, Nat.reduceEqDiff, Nat.reduceAdd, false_and, and_false, true_and, and_true, reduceIte, nZ0, nZ1, fun a k => (jσ58 a k).1, fun a k => (jσ58 a k).2, pσ58]
                    refine ⟨by (first | omega | with_reducible assumption | (unfold rng; omega) | (unfold rng; (repeat' split) <;> omega)), ?_⟩
                    refine ih6 _ _ _ ?_ ?_ ?_ ?_
                    · exact rσ58
                    · exact fσ58
                    · refine ⟨?_, ?_⟩; exact (by first | exact pt9 | exact PtI.fr (jx := jx) (K := [82, 121, 122]) (S := []) pt9 (by repeat (first | exact Fr.rf | assumption | refine Fr.aJ g ?_ (by decide) | refine Fr.aI g ?_ (by decide) | refine Fr.sI g ?_ (by decide) | refine Fr.sJ g ?_ (by decide))) (by decide) (by decide)); exact (by refine ⟨by omega, by omega, by omega, by omega, fun i hi => ?_⟩ <;> (try simp only [rII, rIJ, rIP, rJJ, rJI, rJP, rPP, rPI, rPJ, g1, g2, g3, g4, g5, g6, g7, g8, Nat.reduceEqDiff, Nat.reduceAdd, false_and, and_false, true_and, and_true, reduceIte, nZ0, nZ1, fun a k => (jσ58 a k).1, fun a k => (jσ58 a k).2, pσ58]) <;> first | exact hps i (by omega) | exact hw9 i (by omega) | (split <;> first | omega | exact hw9 i (by omega)))
                    · (try simp only [rII, rIJ, rIP, rJJ, rJI, rJP, rPP, rPI, rPJ, g1, g2, g3, g4, g5, g6, g7, g8, Nat.reduceEqDiff, Nat.reduceAdd, false_and, and_false, true_and, and_true, reduceIte, nZ0, nZ1, fun a k => (jσ58 a k).1, fun a k => (jσ58 a k).2, pσ58]) <;> (first | omega | with_reducible assumption | (unfold rng; omega) | (unfold rng; (repeat' split) <;> omega))
                  · rename_i hc114
                    skip
                    unfold w_X16_matchOne_117
                    try simp only [forall_eq, rII, rIJ, rIP, rJJ, rJI, rJP, rPP, rPI, rPJ, g1, g2, g3, g4, g5, g6, g7, g8, Nat.reduceEqDiff, Nat.reduceAdd, false_and, and_false, true_and, and_true, reduceIte, nZ0, nZ1, fun a k => (jτ110 a k).1, fun a k => (jτ110 a k).2, pτ110]
                    refine ⟨by (first | omega | with_reducible assumption | (unfold rng; omega) | (unfold rng; (repeat' split) <;> omega)), ?_⟩
                    refine ⟨by (first | omega | with_reducible assumption | (unfold rng; omega) | (unfold rng; (repeat' split) <;> omega)), ?_⟩
                    refine ih110 _ _ ?_ ?_ ?_ ?_
                    · refine Rg.aJ g ?_ (by simp only [rlT]; first | with_reducible assumption | omega | exact Int64.toInt_le _ | (rw [Int64.toInt_ofInt_of_le (by omega) (by omega)]; omega) | grind); exact rτ110
                    · refine Fr.aJ g ?_ (by decide); exact fτ110
                    · refine ⟨?_, ?_⟩; exact (by first | exact pt9 | exact PtI.fr (jx := jx) (K := [82, 121, 122]) (S := []) pt9 (by repeat (first | exact Fr.rf | assumption | refine Fr.aJ g ?_ (by decide) | refine Fr.aI g ?_ (by decide) | refine Fr.sI g ?_ (by decide) | refine Fr.sJ g ?_ (by decide))) (by decide) (by decide)); exact (by exact ⟨by omega, by omega, fun i hi => hw9 i hi⟩)
                    · (try simp only [rII, rIJ, rIP, rJJ, rJI, rJP, rPP, rPI, rPJ, g1, g2, g3, g4, g5, g6, g7, g8, Nat.reduceEqDiff, Nat.reduceAdd, false_and, and_false, true_and, and_true, reduceIte, nZ0, nZ1, fun a k => (jτ110 a k).1, fun a k => (jτ110 a k).2, pτ110]) <;> (first | omega | with_reducible assumption | (unfold rng; omega) | (unfold rng; (repeat' split) <;> omega))
              refine ⟨_, L110 _ _ _ ?_ ?_ ?_ (Nat.lt_succ_self _)⟩
              · exact rσ42
              · exact fσ42
              · refine ⟨?_, ?_⟩; exact (by first | exact pt9 | exact PtI.fr (jx := jx) (K := [82, 121, 122]) (S := []) pt9 (by repeat (first | exact Fr.rf | assumption | refine Fr.aJ g ?_ (by decide) | refine Fr.aI g ?_ (by decide) | refine Fr.sI g ?_ (by decide) | refine Fr.sJ g ?_ (by decide))) (by decide) (by decide)); exact (by exact ⟨by omega, by omega, fun i hi => hw9 i hi⟩)
        · rename_i hc33
          skip
          unfold w_X16_matchOne_36
          try simp only [forall_eq, rII, rIJ, rIP, rJJ, rJI, rJP, rPP, rPI, rPJ, g1, g2, g3, g4, g5, g6, g7, g8, Nat.reduceEqDiff, Nat.reduceAdd, false_and, and_false, true_and, and_true, reduceIte, nZ0, nZ1, fun a k => (jτ6 a k).1, fun a k => (jτ6 a k).2, pτ6]
          unfold w_X16_matchOne_199
          try simp only [forall_eq, rII, rIJ, rIP, rJJ, rJI, rJP, rPP, rPI, rPJ, g1, g2, g3, g4, g5, g6, g7, g8, Nat.reduceEqDiff, Nat.reduceAdd, false_and, and_false, true_and, and_true, reduceIte, nZ0, nZ1, fun a k => (jτ6 a k).1, fun a k => (jτ6 a k).2, pτ6]
          refine ⟨by (first | omega | with_reducible assumption | (unfold rng; omega) | (unfold rng; (repeat' split) <;> omega)), ?_⟩
          refine ih6 _ _ _ ?_ ?_ ?_ ?_
          · exact rτ6
          · exact fτ6
          · refine ⟨?_, ?_⟩; exact (by first | exact pt9 | exact PtI.fr (jx := jx) (K := [82, 121, 122]) (S := []) pt9 (by repeat (first | exact Fr.rf | assumption | refine Fr.aJ g ?_ (by decide) | refine Fr.aI g ?_ (by decide) | refine Fr.sI g ?_ (by decide) | refine Fr.sJ g ?_ (by decide))) (by decide) (by decide)); exact (by refine ⟨by omega, by omega, by omega, by omega, fun i hi => ?_⟩ <;> (try simp only [rII, rIJ, rIP, rJJ, rJI, rJP, rPP, rPI, rPJ, g1, g2, g3, g4, g5, g6, g7, g8, Nat.reduceEqDiff, Nat.reduceAdd, false_and, and_false, true_and, and_true, reduceIte, nZ0, nZ1, fun a k => (jτ6 a k).1, fun a k => (jτ6 a k).2, pτ6]) <;> first | exact hps i (by omega) | exact hw9 i (by omega) | (split <;> first | omega | exact hw9 i (by omega)))
          · (try simp only [rII, rIJ, rIP, rJJ, rJI, rJP, rPP, rPI, rPJ, g1, g2, g3, g4, g5, g6, g7, g8, Nat.reduceEqDiff, Nat.reduceAdd, false_and, and_false, true_and, and_true, reduceIte, nZ0, nZ1, fun a k => (jτ6 a k).1, fun a k => (jτ6 a k).2, pτ6]) <;> (first | omega | with_reducible assumption | (unfold rng; omega) | (unfold rng; (repeat' split) <;> omega))
  refine ⟨_, L6 _ _ _ _ ?_ ?_ ?_ (Nat.lt_succ_self _)⟩
  · exact rσ
  · exact fσ
  · refine ⟨?_, ?_⟩; exact (by first | exact pt9 | exact PtI.fr (jx := jx) (K := [82, 121, 122]) (S := []) pt9 (by repeat (first | exact Fr.rf | assumption | refine Fr.aJ g ?_ (by decide) | refine Fr.aI g ?_ (by decide) | refine Fr.sI g ?_ (by decide) | refine Fr.sJ g ?_ (by decide))) (by decide) (by decide)); exact (by refine ⟨by omega, by omega, by omega, by omega, fun i hi => ?_⟩ <;> (try simp only [rII, rIJ, rIP, rJJ, rJI, rJP, rPP, rPI, rPJ, g1, g2, g3, g4, g5, g6, g7, g8, Nat.reduceEqDiff, Nat.reduceAdd, false_and, and_false, true_and, and_true, reduceIte, nZ0, nZ1]) <;> first | exact hps i (by omega) | exact hw9 i (by omega) | (split <;> first | omega | exact hw9 i (by omega)))
set_option maxHeartbeats 4000000 in
theorem s2_X16_passUnique {ra : Nat → Nat} {jx : Nat → Nat → Nat} {rm : Nat} {ja : Nat} {b : Int} {A : Int} (g : Geo ra jx rm) {σ : Sg} {v1 : Int} {v2 : Int} (rσ : Rg ra jx rm σ) (hj : gP σ rm 17 = some ja) (hja : ja = ra 15 ∨ ja = ra 16) (h1 : 0 ≤ v1 ∧ v1 < 16) (h2 : 0 ≤ v2 ∧ v2 < 16) (hpt : PtI ra rm σ b A) (hA : 1000000 ≤ A ∧ A ≤ 2000000) (hin_v2 : gI σ (ra 118) (v2 + 1).toNat ≤ b) {Q : Sg → Unit → Prop} {X : Sg → String → Prop} (hQ : ∀ (σ' : Sg) (r : Unit), Rg ra jx rm σ' → Fr ra jx rm [81, 115, 116, 119] [117] σ σ' → (PtI ra rm σ' b A ∧ (True)) → Q σ' r) (hX : ∀ (σ' : Sg) (E : String), Rg ra jx rm σ' → Fr ra jx rm [81, 115, 116, 119] [117] σ σ' → (E = "StreamHouseModel$Broken") → X σ' E) : wp_X16_passUnique ra jx rm v1 v2 σ Q X := by
  obtain ⟨g1, g2, g3, g4, g5, g6, g7, g8⟩ := id g
  have fσ : Fr ra jx rm [81, 115, 116, 119] [117] σ σ := Fr.rf
  have pt9 := hpt
  unfold wp_X16_passUnique
  unfold w_X16_passUnique_0
  try simp only [forall_eq, rII, rIJ, rIP, rJJ, rJI, rJP, rPP, rPI, rPJ, g1, g2, g3, g4, g5, g6, g7, g8, Nat.reduceEqDiff, Nat.reduceAdd, false_and, and_false, true_and, and_true, reduceIte, nZ0, nZ1]
  refine s2_X16_sort g rσ (by first | exact hj | (rw [fσ.2.2.2]; exact hj)) hja (by (try simp only [rII, rIJ, rIP, rJJ, rJI, rJP, rPP, rPI, rPJ, g1, g2, g3, g4, g5, g6, g7, g8, Nat.reduceEqDiff, Nat.reduceAdd, false_and, and_false, true_and, and_true, reduceIte, nZ0, nZ1]) <;> (first | omega | with_reducible assumption | (unfold rng; omega) | (unfold rng; (repeat' split) <;> omega) | grind)) (fun σ15 r16 rσ15 fc p1 => ?_)
  have fσ15 : Fr ra jx rm [81, 115, 116, 119] [117] σ σ15 := Fr.tr fσ (Fr.mor (fc) (by decide) (by decide))
  have pt9 := PtI.fr pt9 fc (by decide) (by decide)
  have so9 : SoI ra σ15 _ _ _ := p1.2
  have sn9 := p1.1
  have eσ15_118 := fσ15.1 118 (by decide)
  have jσ15 := fσ15.2.2.1
  have pσ15 := fσ15.2.2.2
  try simp only [forall_eq, rII, rIJ, rIP, rJJ, rJI, rJP, rPP, rPI, rPJ, g1, g2, g3, g4, g5, g6, g7, g8, Nat.reduceEqDiff, Nat.reduceAdd, false_and, and_false, true_and, and_true, reduceIte, nZ0, nZ1, eσ15_118.1, eσ15_118.2, fun a k => (jσ15 a k).1, fun a k => (jσ15 a k).2, pσ15]
  have q2 := rσ.1 118 (v2.toNat); simp only [rgT] at q2
  have q3 := rσ.1 118 ((v2 + 1).toNat); simp only [rgT] at q3
  have q4 := rσ.2.1 117; simp only [rgS] at q4
  have L15 : ∀ (fu15 : Nat) (τ15 : Sg) (v5 : Int), Rg ra jx rm τ15 → Fr ra jx rm [81, 115, 116, 119] [117] σ τ15 → (PtI ra rm τ15 b A ∧ SoI ra τ15 r16 (gI σ (ra 118) v2.toNat) (gI σ (ra 118) (v2 + 1).toNat) ∧ (0 ≤ v5 ∧ v5 ≤ r16)) → ((r16 - v5).toNat) < fu15 → wl_X16_passUnique_15 ra jx rm Q X fu15 τ15 v1 (gI σ rm 117) r16 v5 := by
    intro fu15
    induction fu15 with
    | zero => intro τ15 _ _ _ _ h9; omega
    | succ fu15 ih15 =>
      intro τ15 v5 rτ15 fτ15 hi15 hm15
      unfold wl_X16_passUnique_15
      have eτ15_118 := fτ15.1 118 (by decide)
      have jτ15 := fτ15.2.2.1
      have pτ15 := fτ15.2.2.2
      unfold w_X16_passUnique_15
      try simp only [forall_eq, rII, rIJ, rIP, rJJ, rJI, rJP, rPP, rPI, rPJ, g1, g2, g3, g4, g5, g6, g7, g8, Nat.reduceEqDiff, Nat.reduceAdd, false_and, and_false, true_and, and_true, reduceIte, nZ0, nZ1, eτ15_118.1, eτ15_118.2, fun a k => (jτ15 a k).1, fun a k => (jτ15 a k).2, pτ15]
      obtain ⟨pt9, so9, hi15⟩ := hi15
      split
      · rename_i hc19
        skip
        unfold w_X16_passUnique_163
        try simp only [forall_eq, rII, rIJ, rIP, rJJ, rJI, rJP, rPP, rPI, rPJ, g1, g2, g3, g4, g5, g6, g7, g8, Nat.reduceEqDiff, Nat.reduceAdd, false_and, and_false, true_and, and_true, reduceIte, nZ0, nZ1, eτ15_118.1, eτ15_118.2, fun a k => (jτ15 a k).1, fun a k => (jτ15 a k).2, pτ15]
        refine hQ _ _ ?_ ?_ ?_
        · exact rτ15
        · exact fτ15
        · refine ⟨(by first | exact pt9), ?_⟩; first | trivial | (first | omega | with_reducible assumption | (unfold rng; omega) | (unfold rng; (repeat' split) <;> omega) | grind)
      · rename_i hc19
        skip
        unfold w_X16_passUnique_22
        try simp only [forall_eq, rII, rIJ, rIP, rJJ, rJI, rJP, rPP, rPI, rPJ, g1, g2, g3, g4, g5, g6, g7, g8, Nat.reduceEqDiff, Nat.reduceAdd, false_and, and_false, true_and, and_true, reduceIte, nZ0, nZ1, eτ15_118.1, eτ15_118.2, fun a k => (jτ15 a k).1, fun a k => (jτ15 a k).2, pτ15]
        have sm9 := so9 v5.toNat (by omega)
        refine ⟨by (first | omega | with_reducible assumption | (unfold rng; omega) | (unfold rng; (repeat' split) <;> omega) | grind), ?_⟩
        have q5 := rτ15.1 119 (v5.toNat); simp only [rgT] at q5
        refine s_X16_load g rτ15 (by (try simp only [rII, rIJ, rIP, rJJ, rJI, rJP, rPP, rPI, rPJ, g1, g2, g3, g4, g5, g6, g7, g8, Nat.reduceEqDiff, Nat.reduceAdd, false_and, and_false, true_and, and_true, reduceIte, nZ0, nZ1, eτ15_118.1, eτ15_118.2, fun a k => (jτ15 a k).1, fun a k => (jτ15 a k).2, pτ15]) <;> (first | omega | with_reducible assumption | (unfold rng; omega) | (unfold rng; (repeat' split) <;> omega) | grind)) (fun σ17 _ rσ17 fc p6 => ?_)
        have fσ17 : Fr ra jx rm [81, 115, 116, 119] [117] σ σ17 := Fr.tr fτ15 (Fr.mor (fc) (by decide) (by decide))
        have pt9 := PtI.fr pt9 fc (by decide) (by decide)
        have so9 := SoI.fr so9 fc (by decide)
        have eσ17_118 := fσ17.1 118 (by decide)
        have jσ17 := fσ17.2.2.1
        have pσ17 := fσ17.2.2.2
        try simp only [forall_eq, rII, rIJ, rIP, rJJ, rJI, rJP, rPP, rPI, rPJ, g1, g2, g3, g4, g5, g6, g7, g8, Nat.reduceEqDiff, Nat.reduceAdd, false_and, and_false, true_and, and_true, reduceIte, nZ0, nZ1, eσ17_118.1, eσ17_118.2, fun a k => (jσ17 a k).1, fun a k => (jσ17 a k).2, pσ17]
        have L43 : ∀ (fu43 : Nat) (v7 : Int) (v8 : Int), (PtI ra rm σ17 b A ∧ SoI ra σ17 r16 (gI σ (ra 118) v2.toNat) (gI σ (ra 118) (v2 + 1).toNat) ∧ (0 ≤ v8 ∧ (v7 = 0 ∨ v7 = 1))) → ((4000 - v8).toNat) < fu43 → wl_X16_passUnique_43 ra jx rm (wl_X16_passUnique_15 ra jx rm Q X fu15) Q X fu43 σ17 v1 (gI σ rm 117) r16 v5 (gI τ15 (ra 119) v5.toNat) v7 v8 := by
          intro fu43
          induction fu43 with
          | zero => intro  _ _ _ h9; omega
          | succ fu43 ih43 =>
            intro v7 v8 hi43 hm43
            unfold wl_X16_passUnique_43
            unfold w_X16_passUnique_43
            try simp only [forall_eq, rII, rIJ, rIP, rJJ, rJI, rJP, rPP, rPI, rPJ, g1, g2, g3, g4, g5, g6, g7, g8, Nat.reduceEqDiff, Nat.reduceAdd, false_and, and_false, true_and, and_true, reduceIte, nZ0, nZ1, eσ17_118.1, eσ17_118.2, fun a k => (jσ17 a k).1, fun a k => (jσ17 a k).2, pσ17]
            obtain ⟨pt9, so9, hi43⟩ := hi43
            have q7 := rσ17.2.1 117; simp only [rgS] at q7
            split
            · rename_i hc49
              skip
              unfold w_X16_passUnique_136
              try simp only [forall_eq, rII, rIJ, rIP, rJJ, rJI, rJP, rPP, rPI, rPJ, g1, g2, g3, g4, g5, g6, g7, g8, Nat.reduceEqDiff, Nat.reduceAdd, false_and, and_false, true_and, and_true, reduceIte, nZ0, nZ1, eσ17_118.1, eσ17_118.2, fun a k => (jσ17 a k).1, fun a k => (jσ17 a k).2, pσ17]
              split
              · rename_i hc138
                skip
                unfold w_X16_passUnique_157
                try simp only [forall_eq, rII, rIJ, rIP, rJJ, rJI, rJP, rPP, rPI, rPJ, g1, g2, g3, g4, g5, g6, g7, g8, Nat.reduceEqDiff, Nat.reduceAdd, false_and, and_false, true_and, and_true, reduceIte, nZ0, nZ1, eσ17_118.1, eσ17_118.2, fun a k => (jσ17 a k).1, fun a k => (jσ17 a k).2, pσ17]
                refine ⟨by (first | omega | with_reducible assumption | (unfold rng; omega) | (unfold rng; (repeat' split) <;> omega) | grind), ?_⟩
                refine ih15 _ _ ?_ ?_ ?_ ?_
                · exact rσ17
                · exact fσ17
                · refine ⟨?_, ?_, ?_⟩; exact (by first | exact pt9); exact (by first | exact so9); exact (by (first | omega | with_reducible assumption | (unfold rng; omega) | (unfold rng; (repeat' split) <;> omega) | grind))
                · (try simp only [rII, rIJ, rIP, rJJ, rJI, rJP, rPP, rPI, rPJ, g1, g2, g3, g4, g5, g6, g7, g8, Nat.reduceEqDiff, Nat.reduceAdd, false_and, and_false, true_and, and_true, reduceIte, nZ0, nZ1, eσ17_118.1, eσ17_118.2, fun a k => (jσ17 a k).1, fun a k => (jσ17 a k).2, pσ17]) <;> (first | omega | with_reducible assumption | (unfold rng; omega) | (unfold rng; (repeat' split) <;> omega) | grind)
              · rename_i hc138
                skip
                unfold w_X16_passUnique_141
                try simp only [forall_eq, rII, rIJ, rIP, rJJ, rJI, rJP, rPP, rPI, rPJ, g1, g2, g3, g4, g5, g6, g7, g8, Nat.reduceEqDiff, Nat.reduceAdd, false_and, and_false, true_and, and_true, reduceIte, nZ0, nZ1, eσ17_118.1, eσ17_118.2, fun a k => (jσ17 a k).1, fun a k => (jσ17 a k).2, pσ17]
                refine ⟨by (first | omega | with_reducible assumption | (unfold rng; omega) | (unfold rng; (repeat' split) <;> omega) | grind), ?_⟩
                refine s2_X16_pass (b3 := (ra 81)) (n3 := 8) g rσ17 rfl (Or.inl ⟨81, rfl, by decide⟩) (by (try simp only [rII, rIJ, rIP, rJJ, rJI, rJP, rPP, rPI, rPJ, g1, g2, g3, g4, g5, g6, g7, g8, Nat.reduceEqDiff, Nat.reduceAdd, false_and, and_false, true_and, and_true, reduceIte, nZ0, nZ1, eσ17_118.1, eσ17_118.2, fun a k => (jσ17 a k).1, fun a k => (jσ17 a k).2, pσ17]) <;> (first | omega | with_reducible assumption | (unfold rng; omega) | (unfold rng; (repeat' split) <;> omega) | grind)) (by (try simp only [rII, rIJ, rIP, rJJ, rJI, rJP, rPP, rPI, rPJ, g1, g2, g3, g4, g5, g6, g7, g8, Nat.reduceEqDiff, Nat.reduceAdd, false_and, and_false, true_and, and_true, reduceIte, nZ0, nZ1, eσ17_118.1, eσ17_118.2, fun a k => (jσ17 a k).1, fun a k => (jσ17 a k).2, pσ17]) <;> (first | omega | with_reducible assumption | (unfold rng; omega) | (unfold rng; (repeat' split) <;> omega) | grind)) (by first | exact pt9) hA (by (try simp only [rII, rIJ, rIP, rJJ, rJI, rJP, rPP, rPI, rPJ, g1, g2, g3, g4, g5, g6, g7, g8, Nat.reduceEqDiff, Nat.reduceAdd, false_and, and_false, true_and, and_true, reduceIte, nZ0, nZ1, eσ17_118.1, eσ17_118.2, fun a k => (jσ17 a k).1, fun a k => (jσ17 a k).2, pσ17]) <;> exact PtI.lo pt9 (by omega) (by omega)) (fun σ18 _ rσ18 fc p8 => ?_) (fun σx E rx fx px => hX _ _ rx (Fr.tr fσ17 (Fr.mor (fx) (by decide) (by decide))) px)
                have fσ18 : Fr ra jx rm [81, 115, 116, 119] [117] σ σ18 := Fr.tr fσ17 (Fr.mor (fc) (by decide) (by decide))
                have pt9 := p8.1
                have so9 := SoI.fr so9 fc (by decide)
                have eσ18_118 := fσ18.1 118 (by decide)
                have jσ18 := fσ18.2.2.1
                have pσ18 := fσ18.2.2.2
                try simp only [forall_eq, rII, rIJ, rIP, rJJ, rJI, rJP, rPP, rPI, rPJ, g1, g2, g3, g4, g5, g6, g7, g8, Nat.reduceEqDiff, Nat.reduceAdd, false_and, and_false, true_and, and_true, reduceIte, nZ0, nZ1, eσ18_118.1, eσ18_118.2, fun a k => (jσ18 a k).1, fun a k => (jσ18 a k).2, pσ18]
                unfold w_X16_passUnique_157
                try simp only [forall_eq, rII, rIJ, rIP, rJJ, rJI, rJP, rPP, rPI, rPJ, g1, g2, g3, g4, g5, g6, g7, g8, Nat.reduceEqDiff, Nat.reduceAdd, false_and, and_false, true_and, and_true, reduceIte, nZ0, nZ1, eσ18_118.1, eσ18_118.2, fun a k => (jσ18 a k).1, fun a k => (jσ18 a k).2, pσ18]
                refine ⟨by (first | omega | with_reducible assumption | (unfold rng; omega) | (unfold rng; (repeat' split) <;> omega) | grind), ?_⟩
                refine ih15 _ _ ?_ ?_ ?_ ?_
                · exact rσ18
                · exact fσ18
                · refine ⟨?_, ?_, ?_⟩; exact (by first | exact pt9); exact (by first | exact so9); exact (by (first | omega | with_reducible assumption | (unfold rng; omega) | (unfold rng; (repeat' split) <;> omega) | grind))
                · (try simp only [rII, rIJ, rIP, rJJ, rJI, rJP, rPP, rPI, rPJ, g1, g2, g3, g4, g5, g6, g7, g8, Nat.reduceEqDiff, Nat.reduceAdd, false_and, and_false, true_and, and_true, reduceIte, nZ0, nZ1, eσ18_118.1, eσ18_118.2, fun a k => (jσ18 a k).1, fun a k => (jσ18 a k).2, pσ18]) <;> (first | omega | with_reducible assumption | (unfold rng; omega) | (unfold rng; (repeat' split) <;> omega) | grind)
            · rename_i hc49
              skip
              unfold w_X16_passUnique_52
              try simp only [forall_eq, rII, rIJ, rIP, rJJ, rJI, rJP, rPP, rPI, rPJ, g1, g2, g3, g4, g5, g6, g7, g8, Nat.reduceEqDiff, Nat.reduceAdd, false_and, and_false, true_and, and_true, reduceIte, nZ0, nZ1, eσ17_118.1, eσ17_118.2, fun a k => (jσ17 a k).1, fun a k => (jσ17 a k).2, pσ17]
              split
              · rename_i hc54
                skip
                unfold w_X16_passUnique_127
                try simp only [forall_eq, rII, rIJ, rIP, rJJ, rJI, rJP, rPP, rPI, rPJ, g1, g2, g3, g4, g5, g6, g7, g8, Nat.reduceEqDiff, Nat.reduceAdd, false_and, and_false, true_and, and_true, reduceIte, nZ0, nZ1, eσ17_118.1, eσ17_118.2, fun a k => (jσ17 a k).1, fun a k => (jσ17 a k).2, pσ17]
                unfold w_X16_passUnique_128
                try simp only [forall_eq, rII, rIJ, rIP, rJJ, rJI, rJP, rPP, rPI, rPJ, g1, g2, g3, g4, g5, g6, g7, g8, Nat.reduceEqDiff, Nat.reduceAdd, false_and, and_false, true_and, and_true, reduceIte, nZ0, nZ1, eσ17_118.1, eσ17_118.2, fun a k => (jσ17 a k).1, fun a k => (jσ17 a k).2, pσ17]
                refine ⟨by (first | omega | with_reducible assumption | (unfold rng; omega) | (unfold rng; (repeat' split) <;> omega) | grind), ?_⟩
                refine ih43 _ _ ?_ ?_
                · refine ⟨?_, ?_, ?_⟩; exact (by first | exact pt9); exact (by first | exact so9); exact (by (first | omega | with_reducible assumption | (unfold rng; omega) | (unfold rng; (repeat' split) <;> omega) | grind))
                · (try simp only [rII, rIJ, rIP, rJJ, rJI, rJP, rPP, rPI, rPJ, g1, g2, g3, g4, g5, g6, g7, g8, Nat.reduceEqDiff, Nat.reduceAdd, false_and, and_false, true_and, and_true, reduceIte, nZ0, nZ1, eσ17_118.1, eσ17_118.2, fun a k => (jσ17 a k).1, fun a k => (jσ17 a k).2, pσ17]) <;> (first | omega | with_reducible assumption | (unfold rng; omega) | (unfold rng; (repeat' split) <;> omega) | grind)
              · rename_i hc54
                skip
                unfold w_X16_passUnique_57
                try simp only [forall_eq, rII, rIJ, rIP, rJJ, rJI, rJP, rPP, rPI, rPJ, g1, g2, g3, g4, g5, g6, g7, g8, Nat.reduceEqDiff, Nat.reduceAdd, false_and, and_false, true_and, and_true, reduceIte, nZ0, nZ1, eσ17_118.1, eσ17_118.2, fun a k => (jσ17 a k).1, fun a k => (jσ17 a k).2, pσ17]
                refine ⟨by (first | omega | with_reducible assumption | (unfold rng; omega) | (unfold rng; (repeat' split) <;> omega) | grind), ?_⟩
                refine ⟨ja, by exact hj, hja, ?_⟩
                refine ⟨by (first | omega | with_reducible assumption | (unfold rng; omega) | (unfold rng; (repeat' split) <;> omega) | grind), ?_⟩
                have q9 := rσ.2.2.1 ja 10 (v1.toNat); simp only [rgJ] at q9
                refine ⟨by (first | omega | with_reducible assumption | (unfold rng; omega) | (unfold rng; (repeat' split) <;> omega) | grind), ?_⟩
                refine ⟨by (first | omega | with_reducible assumption | (unfold rng; omega) | (unfold rng; (repeat' split) <;> omega) | grind), ?_⟩
                refine ⟨ja, by exact hj, hja, ?_⟩
                refine ⟨by (first | omega | with_reducible assumption | (unfold rng; omega) | (unfold rng; (repeat' split) <;> omega) | grind), ?_⟩
                refine ⟨by (first | omega | with_reducible assumption | (unfold rng; omega) | (unfold rng; (repeat' split) <;> omega) | grind), ?_⟩
                split
                · rename_i hc92
                  skip
                  unfold w_X16_passUnique_123
                  try simp only [forall_eq, rII, rIJ, rIP, rJJ, rJI, rJP, rPP, rPI, rPJ, g1, g2, g3, g4, g5, g6, g7, g8, Nat.reduceEqDiff, Nat.reduceAdd, false_and, and_false, true_and, and_true, reduceIte, nZ0, nZ1, eσ17_118.1, eσ17_118.2, fun a k => (jσ17 a k).1, fun a k => (jσ17 a k).2, pσ17]
                  unfold w_X16_passUnique_128
                  try simp only [forall_eq, rII, rIJ, rIP, rJJ, rJI, rJP, rPP, rPI, rPJ, g1, g2, g3, g4, g5, g6, g7, g8, Nat.reduceEqDiff, Nat.reduceAdd, false_and, and_false, true_and, and_true, reduceIte, nZ0, nZ1, eσ17_118.1, eσ17_118.2, fun a k => (jσ17 a k).1, fun a k => (jσ17 a k).2, pσ17]
                  refine ⟨by (first | omega | with_reducible assumption | (unfold rng; omega) | (unfold rng; (repeat' split) <;> omega) | grind), ?_⟩
                  refine ih43 _ _ ?_ ?_
                  · refine ⟨?_, ?_, ?_⟩; exact (by first | exact pt9); exact (by first | exact so9); exact (by (first | omega | with_reducible assumption | (unfold rng; omega) | (unfold rng; (repeat' split) <;> omega) | grind))
                  · (try simp only [rII, rIJ, rIP, rJJ, rJI, rJP, rPP, rPI, rPJ, g1, g2, g3, g4, g5, g6, g7, g8, Nat.reduceEqDiff, Nat.reduceAdd, false_and, and_false, true_and, and_true, reduceIte, nZ0, nZ1, eσ17_118.1, eσ17_118.2, fun a k => (jσ17 a k).1, fun a k => (jσ17 a k).2, pσ17]) <;> (first | omega | with_reducible assumption | (unfold rng; omega) | (unfold rng; (repeat' split) <;> omega) | grind)
                · rename_i hc92
                  skip
                  unfold w_X16_passUnique_95
                  try simp only [forall_eq, rII, rIJ, rIP, rJJ, rJI, rJP, rPP, rPI, rPJ, g1, g2, g3, g4, g5, g6, g7, g8, Nat.reduceEqDiff, Nat.reduceAdd, false_and, and_false, true_and, and_true, reduceIte, nZ0, nZ1, eσ17_118.1, eσ17_118.2, fun a k => (jσ17 a k).1, fun a k => (jσ17 a k).2, pσ17]
                  refine ⟨by (first | omega | with_reducible assumption | (unfold rng; omega) | (unfold rng; (repeat' split) <;> omega) | grind), ?_⟩
                  refine ⟨by (first | omega | with_reducible assumption | (unfold rng; omega) | (unfold rng; (repeat' split) <;> omega) | grind), ?_⟩
                  refine ⟨ja, by exact hj, hja, ?_⟩
                  refine ⟨by (first | omega | with_reducible assumption | (unfold rng; omega) | (unfold rng; (repeat' split) <;> omega) | grind), ?_⟩
                  split
                  · rename_i hc120
                    skip
                    unfold w_X16_passUnique_127
                    try simp only [forall_eq, rII, rIJ, rIP, rJJ, rJI, rJP, rPP, rPI, rPJ, g1, g2, g3, g4, g5, g6, g7, g8, Nat.reduceEqDiff, Nat.reduceAdd, false_and, and_false, true_and, and_true, reduceIte, nZ0, nZ1, eσ17_118.1, eσ17_118.2, fun a k => (jσ17 a k).1, fun a k => (jσ17 a k).2, pσ17]
                    unfold w_X16_passUnique_128
                    try simp only [forall_eq, rII, rIJ, rIP, rJJ, rJI, rJP, rPP, rPI, rPJ, g1, g2, g3, g4, g5, g6, g7, g8, Nat.reduceEqDiff, Nat.reduceAdd, false_and, and_false, true_and, and_true, reduceIte, nZ0, nZ1, eσ17_118.1, eσ17_118.2, fun a k => (jσ17 a k).1, fun a k => (jσ17 a k).2, pσ17]
                    refine ⟨by (first | omega | with_reducible assumption | (unfold rng; omega) | (unfold rng; (repeat' split) <;> omega) | grind), ?_⟩
                    refine ih43 _ _ ?_ ?_
                    · refine ⟨?_, ?_, ?_⟩; exact (by first | exact pt9); exact (by first | exact so9); exact (by (first | omega | with_reducible assumption | (unfold rng; omega) | (unfold rng; (repeat' split) <;> omega) | grind))
                    · (try simp only [rII, rIJ, rIP, rJJ, rJI, rJP, rPP, rPI, rPJ, g1, g2, g3, g4, g5, g6, g7, g8, Nat.reduceEqDiff, Nat.reduceAdd, false_and, and_false, true_and, and_true, reduceIte, nZ0, nZ1, eσ17_118.1, eσ17_118.2, fun a k => (jσ17 a k).1, fun a k => (jσ17 a k).2, pσ17]) <;> (first | omega | with_reducible assumption | (unfold rng; omega) | (unfold rng; (repeat' split) <;> omega) | grind)
                  · rename_i hc120
                    skip
                    unfold w_X16_passUnique_123
                    try simp only [forall_eq, rII, rIJ, rIP, rJJ, rJI, rJP, rPP, rPI, rPJ, g1, g2, g3, g4, g5, g6, g7, g8, Nat.reduceEqDiff, Nat.reduceAdd, false_and, and_false, true_and, and_true, reduceIte, nZ0, nZ1, eσ17_118.1, eσ17_118.2, fun a k => (jσ17 a k).1, fun a k => (jσ17 a k).2, pσ17]
                    unfold w_X16_passUnique_128
                    try simp only [forall_eq, rII, rIJ, rIP, rJJ, rJI, rJP, rPP, rPI, rPJ, g1, g2, g3, g4, g5, g6, g7, g8, Nat.reduceEqDiff, Nat.reduceAdd, false_and, and_false, true_and, and_true, reduceIte, nZ0, nZ1, eσ17_118.1, eσ17_118.2, fun a k => (jσ17 a k).1, fun a k => (jσ17 a k).2, pσ17]
                    refine ⟨by (first | omega | with_reducible assumption | (unfold rng; omega) | (unfold rng; (repeat' split) <;> omega) | grind), ?_⟩
                    refine ih43 _ _ ?_ ?_
                    · refine ⟨?_, ?_, ?_⟩; exact (by first | exact pt9); exact (by first | exact so9); exact (by (first | omega | with_reducible assumption | (unfold rng; omega) | (unfold rng; (repeat' split) <;> omega) | grind))
                    · (try simp only [rII, rIJ, rIP, rJJ, rJI, rJP, rPP, rPI, rPJ, g1, g2, g3, g4, g5, g6, g7, g8, Nat.reduceEqDiff, Nat.reduceAdd, false_and, and_false, true_and, and_true, reduceIte, nZ0, nZ1, eσ17_118.1, eσ17_118.2, fun a k => (jσ17 a k).1, fun a k => (jσ17 a k).2, pσ17]) <;> (first | omega | with_reducible assumption | (unfold rng; omega) | (unfold rng; (repeat' split) <;> omega) | grind)
        refine ⟨_, L43 _ _ _ ?_ (Nat.lt_succ_self _)⟩
        · refine ⟨?_, ?_, ?_⟩; exact (by first | exact pt9); exact (by first | exact so9); exact (by (first | omega | with_reducible assumption | (unfold rng; omega) | (unfold rng; (repeat' split) <;> omega) | grind))
  refine ⟨_, L15 _ _ _ ?_ ?_ ?_ (Nat.lt_succ_self _)⟩
  · exact rσ15
  · exact fσ15
  · refine ⟨?_, ?_, ?_⟩; exact (by first | exact pt9); exact (by first | exact so9); exact (by (first | omega | with_reducible assumption | (unfold rng; omega) | (unfold rng; (repeat' split) <;> omega) | grind))
set_option maxHeartbeats 4000000 in
theorem s2_X16_passMatch {ra : Nat → Nat} {jx : Nat → Nat → Nat} {rm : Nat} {ja : Nat} {b : Int} {A : Int} (g : Geo ra jx rm) {σ : Sg} {v1 : Int} {v2 : Int} (rσ : Rg ra jx rm σ) (hj : gP σ rm 17 = some ja) (hja : ja = ra 15 ∨ ja = ra 16) (h1 : 0 ≤ v1 ∧ v1 < 16) (h2 : 0 ≤ v2 ∧ v2 < 16) (hvs : ∀ k, 0 ≤ k → k < gI σ (jx ja 12) v1.toNat → PO jx ja σ (gI σ (jx ja 13) (8 * v1 + k).toNat)) (hva : 2 ≤ gI σ (jx ja 12) v1.toNat) (hpt : PtI ra rm σ b A) (hA : 1000000 ≤ A ∧ A ≤ 2000000) (hin_v2 : gI σ (ra 118) (v2 + 1).toNat ≤ b) {Q : Sg → Unit → Prop} {X : Sg → String → Prop} (hQ : ∀ (σ' : Sg) (r : Unit), Rg ra jx rm σ' → Fr ra jx rm [20, 81, 82, 115, 116, 119, 120, 121, 122] [21, 117] σ σ' → (PtI ra rm σ' b A ∧ (True)) → Q σ' r) (hX : ∀ (σ' : Sg) (E : String), Rg ra jx rm σ' → Fr ra jx rm [20, 81, 82, 115, 116, 119, 120, 121, 122] [21, 117] σ σ' → (E = "StreamHouseModel$Broken") → X σ' E) : wp_X16_passMatch ra jx rm v1 v2 σ Q X := by
  obtain ⟨g1, g2, g3, g4, g5, g6, g7, g8⟩ := id g
  have fσ : Fr ra jx rm [20, 81, 82, 115, 116, 119, 120, 121, 122] [21, 117] σ σ := Fr.rf
  have pt9 := hpt
  unfold wp_X16_passMatch
  unfold w_X16_passMatch_0
  try simp only [forall_eq, rII, rIJ, rIP, rJJ, rJI, rJP, rPP, rPI, rPJ, g1, g2, g3, g4, g5, g6, g7, g8, Nat.reduceEqDiff, Nat.reduceAdd, false_and, and_false, true_and, and_true, reduceIte, nZ0, nZ1]
  refine s2_X16_sort g rσ (by first | exact hj | (rw [fσ.2.2.2]; exact hj)) hja (by (try simp only [rII, rIJ, rIP, rJJ, rJI, rJP, rPP, rPI, rPJ, g1, g2, g3, g4, g5, g6, g7, g8, Nat.reduceEqDiff, Nat.reduceAdd, false_and, and_false, true_and, and_true, reduceIte, nZ0, nZ1]) <;> (first | omega | with_reducible assumption | (unfold rng; omega) | (unfold rng; (repeat' split) <;> omega))) (fun σ23 r24 rσ23 fc p1 => ?_)
  have fσ23 : Fr ra jx rm [20, 81, 82, 115, 116, 119, 120, 121, 122] [21, 117] σ σ23 := Fr.tr fσ (Fr.mor (fc) (by decide) (by decide))
  have pt9 := PtI.fr (PtI.fr (jx := jx) (K := [120]) (S := []) pt9 (by repeat (first | exact Fr.rf | assumption | refine Fr.aJ g ?_ (by decide) | refine Fr.aI g ?_ (by decide) | refine Fr.sI g ?_ (by decide) | refine Fr.sJ g ?_ (by decide))) (by decide) (by decide)) fc (by decide) (by decide)
  have so9 : SoI ra σ23 _ _ _ := p1.2
  have sn9 := p1.1
  have eσ23_118 := fσ23.1 118 (by decide)
  have jσ23 := fσ23.2.2.1
  have pσ23 := fσ23.2.2.2
  try simp only [forall_eq, rII, rIJ, rIP, rJJ, rJI, rJP, rPP, rPI, rPJ, g1, g2, g3, g4, g5, g6, g7, g8, Nat.reduceEqDiff, Nat.reduceAdd, false_and, and_false, true_and, and_true, reduceIte, nZ0, nZ1, eσ23_118.1, eσ23_118.2, fun a k => (jσ23 a k).1, fun a k => (jσ23 a k).2, pσ23]
  have q2 := rσ.1 118 (v2.toNat); simp only [rgT] at q2
  have q3 := rσ.1 118 ((v2 + 1).toNat); simp only [rgT] at q3
  have L9 : ∀ (fu9 : Nat) (τ9 : Sg) (v4 : Int), Rg ra jx rm τ9 → Fr ra jx rm [20, 81, 82, 115, 116, 119, 120, 121, 122] [21, 117] σ τ9 → (PtI ra rm τ9 b A ∧ SoI ra τ9 r24 (gI σ (ra 118) v2.toNat) (gI σ (ra 118) (v2 + 1).toNat) ∧ (0 ≤ v4 ∧ v4 ≤ r24)) → ((r24 - v4).toNat) < fu9 → wl_X16_passMatch_9 ra jx rm Q X fu9 τ9 v1 r24 v4 := by
    intro fu9
    induction fu9 with
    | zero => intro τ9 _ _ _ _ h9; omega
    | succ fu9 ih9 =>
      intro τ9 v4 rτ9 fτ9 hi9 hm9
      unfold wl_X16_passMatch_9
      have eτ9_118 := fτ9.1 118 (by decide)
      have jτ9 := fτ9.2.2.1
      have pτ9 := fτ9.2.2.2
      unfold w_X16_passMatch_9
      try simp only [forall_eq, rII, rIJ, rIP, rJJ, rJI, rJP, rPP, rPI, rPJ, g1, g2, g3, g4, g5, g6, g7, g8, Nat.reduceEqDiff, Nat.reduceAdd, false_and, and_false, true_and, and_true, reduceIte, nZ0, nZ1, eτ9_118.1, eτ9_118.2, fun a k => (jτ9 a k).1, fun a k => (jτ9 a k).2, pτ9]
      obtain ⟨pt9, so9, hi9⟩ := hi9
      split
      · rename_i hc12
        skip
        unfold w_X16_passMatch_29
        try simp only [forall_eq, rII, rIJ, rIP, rJJ, rJI, rJP, rPP, rPI, rPJ, g1, g2, g3, g4, g5, g6, g7, g8, Nat.reduceEqDiff, Nat.reduceAdd, false_and, and_false, true_and, and_true, reduceIte, nZ0, nZ1, eτ9_118.1, eτ9_118.2, fun a k => (jτ9 a k).1, fun a k => (jτ9 a k).2, pτ9]
        have L32 : ∀ (fu32 : Nat) (τ32 : Sg) (v4 : Int), Rg ra jx rm τ32 → Fr ra jx rm [20, 81, 82, 115, 116, 119, 120, 121, 122] [21, 117] σ τ32 → (PtI ra rm τ32 b A ∧ SoI ra τ32 r24 (gI σ (ra 118) v2.toNat) (gI σ (ra 118) (v2 + 1).toNat) ∧ (0 ≤ v4 ∧ v4 ≤ r24)) → ((r24 - v4).toNat) < fu32 → wl_X16_passMatch_32 ra jx rm Q X fu32 τ32 v1 r24 v4 := by
          intro fu32
          induction fu32 with
          | zero => intro τ32 _ _ _ _ h9; omega
          | succ fu32 ih32 =>
            intro τ32 v4 rτ32 fτ32 hi32 hm32
            unfold wl_X16_passMatch_32
            have eτ32_118 := fτ32.1 118 (by decide)
            have jτ32 := fτ32.2.2.1
            have pτ32 := fτ32.2.2.2
            unfold w_X16_passMatch_32
            try simp only [forall_eq, rII, rIJ, rIP, rJJ, rJI, rJP, rPP, rPI, rPJ, g1, g2, g3, g4, g5, g6, g7, g8, Nat.reduceEqDiff, Nat.reduceAdd, false_and, and_false, true_and, and_true, reduceIte, nZ0, nZ1, eτ32_118.1, eτ32_118.2, fun a k => (jτ32 a k).1, fun a k => (jτ32 a k).2, pτ32]
            obtain ⟨pt9, so9, hi32⟩ := hi32
            split
            · rename_i hc35
              skip
              unfold w_X16_passMatch_198
              try simp only [forall_eq, rII, rIJ, rIP, rJJ, rJI, rJP, rPP, rPI, rPJ, g1, g2, g3, g4, g5, g6, g7, g8, Nat.reduceEqDiff, Nat.reduceAdd, false_and, and_false, true_and, and_true, reduceIte, nZ0, nZ1, eτ32_118.1, eτ32_118.2, fun a k => (jτ32 a k).1, fun a k => (jτ32 a k).2, pτ32]
              refine hQ _ _ ?_ ?_ ?_
              · exact rτ32
              · exact fτ32
              · refine ⟨(by first | exact pt9 | exact PtI.fr (jx := jx) (K := [120]) (S := []) pt9 (by repeat (first | exact Fr.rf | assumption | refine Fr.aJ g ?_ (by decide) | refine Fr.aI g ?_ (by decide) | refine Fr.sI g ?_ (by decide) | refine Fr.sJ g ?_ (by decide))) (by decide) (by decide)), ?_⟩; first | trivial | (first | omega | with_reducible assumption | (unfold rng; omega) | (unfold rng; (repeat' split) <;> omega))
            · rename_i hc35
              skip
              unfold w_X16_passMatch_38
              try simp only [forall_eq, rII, rIJ, rIP, rJJ, rJI, rJP, rPP, rPI, rPJ, g1, g2, g3, g4, g5, g6, g7, g8, Nat.reduceEqDiff, Nat.reduceAdd, false_and, and_false, true_and, and_true, reduceIte, nZ0, nZ1, eτ32_118.1, eτ32_118.2, fun a k => (jτ32 a k).1, fun a k => (jτ32 a k).2, pτ32]
              refine ⟨by (first | omega | with_reducible assumption | (unfold rng; omega) | (unfold rng; (repeat' split) <;> omega)), ?_⟩
              have q4 := rτ32.1 120 (v4.toNat); simp only [rgT] at q4
              split
              · rename_i hc45
                skip
                unfold w_X16_passMatch_51
                try simp only [forall_eq, rII, rIJ, rIP, rJJ, rJI, rJP, rPP, rPI, rPJ, g1, g2, g3, g4, g5, g6, g7, g8, Nat.reduceEqDiff, Nat.reduceAdd, false_and, and_false, true_and, and_true, reduceIte, nZ0, nZ1, eτ32_118.1, eτ32_118.2, fun a k => (jτ32 a k).1, fun a k => (jτ32 a k).2, pτ32]
                refine ⟨by (first | omega | with_reducible assumption | (unfold rng; omega) | (unfold rng; (repeat' split) <;> omega)), ?_⟩
                have q5 := rτ32.1 119 (v4.toNat); simp only [rgT] at q5
                refine ⟨by (first | omega | with_reducible assumption | (unfold rng; omega) | (unfold rng; (repeat' split) <;> omega)), ?_⟩
                refine ⟨ja, by exact hj, hja, ?_⟩
                refine ⟨by (first | omega | with_reducible assumption | (unfold rng; omega) | (unfold rng; (repeat' split) <;> omega)), ?_⟩
                have q6 := rσ.2.2.1 ja 10 (v1.toNat); simp only [rgJ] at q6
                refine ⟨by (first | omega | with_reducible assumption | (unfold rng; omega) | (unfold rng; (repeat' split) <;> omega)), ?_⟩
                refine ⟨by (first | omega | with_reducible assumption | (unfold rng; omega) | (unfold rng; (repeat' split) <;> omega)), ?_⟩
                have q7 := rσ.2.2.1 ja 12 (v1.toNat); simp only [rgJ] at q7
                have L85 : ∀ (fu85 : Nat) (τ85 : Sg) (v7 : Int) (v8 : Int), Rg ra jx rm τ85 → Fr ra jx rm [20, 81, 82, 115, 116, 119, 120, 121, 122] [21, 117] σ τ85 → (PtI ra rm τ85 b A ∧ SoI ra τ85 r24 (gI σ (ra 118) v2.toNat) (gI σ (ra 118) (v2 + 1).toNat) ∧ (0 ≤ v8 ∧ v8 ≤ r24 ∧ 0 ≤ v7 ∧ v7 ≤ v8 ∧ v7 < 4000 + 1 ∧ (∀ i : Nat, (i : Int) < v7 → gI τ85 (ra 122) i < gI σ (jx ja 12) v1.toNat))) → ((r24 - v8).toNat) < fu85 → wl_X16_passMatch_85 ra jx rm (wl_X16_passMatch_32 ra jx rm Q X fu32) Q X fu85 τ85 v1 r24 v4 (gJ τ32 (ra 116) ((8 * (gI τ32 (ra 119) v4.toNat)) + (gI σ (jx ja 10) v1.toNat)).toNat) v7 v8 := by
                  intro fu85
                  induction fu85 with
                  | zero => intro τ85 _ _ _ _ _ h9; omega
                  | succ fu85 ih85 =>
                    intro τ85 v7 v8 rτ85 fτ85 hi85 hm85
                    unfold wl_X16_passMatch_85
                    have eτ85_118 := fτ85.1 118 (by decide)
                    have jτ85 := fτ85.2.2.1
                    have pτ85 := fτ85.2.2.2
                    unfold w_X16_passMatch_85
                    try simp only [forall_eq, rII, rIJ, rIP, rJJ, rJI, rJP, rPP, rPI, rPJ, g1, g2, g3, g4, g5, g6, g7, g8, Nat.reduceEqDiff, Nat.reduceAdd, false_and, and_false, true_and, and_true, reduceIte, nZ0, nZ1, eτ85_118.1, eτ85_118.2, fun a k => (jτ85 a k).1, fun a k => (jτ85 a k).2, pτ85]
                    obtain ⟨pt9, so9, hi85⟩ := hi85
                    have hps9 := hi85.2.2.2.2.2
                    have i81 := hi85.1; have i82 := hi85.2.1; have i83 := hi85.2.2.1; have i84 := hi85.2.2.2.1; clear hi85
                    split
                    · rename_i hc88
                      skip
                      unfold w_X16_passMatch_192
                      try simp only [forall_eq, rII, rIJ, rIP, rJJ, rJI, rJP, rPP, rPI, rPJ, g1, g2, g3, g4, g5, g6, g7, g8, Nat.reduceEqDiff, Nat.reduceAdd, false_and, and_false, true_and, and_true, reduceIte, nZ0, nZ1, eτ85_118.1, eτ85_118.2, fun a k => (jτ85 a k).1, fun a k => (jτ85 a k).2, pτ85]
                      refine ⟨by (first | omega | with_reducible assumption | (unfold rng; omega) | (unfold rng; (repeat' split) <;> omega)), ?_⟩
                      refine ih32 _ _ ?_ ?_ ?_ ?_
                      · exact rτ85
                      · exact fτ85
                      · refine ⟨?_, ?_, ?_⟩; exact (by first | exact pt9 | exact PtI.fr (jx := jx) (K := [120]) (S := []) pt9 (by repeat (first | exact Fr.rf | assumption | refine Fr.aJ g ?_ (by decide) | refine Fr.aI g ?_ (by decide) | refine Fr.sI g ?_ (by decide) | refine Fr.sJ g ?_ (by decide))) (by decide) (by decide)); exact (by first | exact so9 | exact SoI.fr (jx := jx) (rm := rm) (K := [120]) (S := []) so9 (by repeat (first | exact Fr.rf | assumption | refine Fr.aJ g ?_ (by decide) | refine Fr.aI g ?_ (by decide) | refine Fr.sI g ?_ (by decide) | refine Fr.sJ g ?_ (by decide))) (by decide)); exact (by (first | omega | with_reducible assumption | (unfold rng; omega) | (unfold rng; (repeat' split) <;> omega)))
                      · (try simp only [rII, rIJ, rIP, rJJ, rJI, rJP, rPP, rPI, rPJ, g1, g2, g3, g4, g5, g6, g7, g8, Nat.reduceEqDiff, Nat.reduceAdd, false_and, and_false, true_and, and_true, reduceIte, nZ0, nZ1, eτ85_118.1, eτ85_118.2, fun a k => (jτ85 a k).1, fun a k => (jτ85 a k).2, pτ85]) <;> (first | omega | with_reducible assumption | (unfold rng; omega) | (unfold rng; (repeat' split) <;> omega))
                    · rename_i hc88
                      skip
                      unfold w_X16_passMatch_91
                      try simp only [forall_eq, rII, rIJ, rIP, rJJ, rJI, rJP, rPP, rPI, rPJ, g1, g2, g3, g4, g5, g6, g7, g8, Nat.reduceEqDiff, Nat.reduceAdd, false_and, and_false, true_and, and_true, reduceIte, nZ0, nZ1, eτ85_118.1, eτ85_118.2, fun a k => (jτ85 a k).1, fun a k => (jτ85 a k).2, pτ85]
                      have sm9 := so9 v8.toNat (by omega)
                      refine ⟨by (first | omega | with_reducible assumption | (unfold rng; omega) | (unfold rng; (repeat' split) <;> omega)), ?_⟩
                      refine ⟨by (first | omega | with_reducible assumption | (unfold rng; omega) | (unfold rng; (repeat' split) <;> omega)), ?_⟩
                      have q8 := rτ85.1 120 (v8.toNat); simp only [rgT] at q8
                      split
                      · rename_i hc107
                        skip
                        unfold w_X16_passMatch_186
                        try simp only [forall_eq, rII, rIJ, rIP, rJJ, rJI, rJP, rPP, rPI, rPJ, g1, g2, g3, g4, g5, g6, g7, g8, Nat.reduceEqDiff, Nat.reduceAdd, false_and, and_false, true_and, and_true, reduceIte, nZ0, nZ1, eτ85_118.1, eτ85_118.2, fun a k => (jτ85 a k).1, fun a k => (jτ85 a k).2, pτ85]
                        refine ⟨by (first | omega | with_reducible assumption | (unfold rng; omega) | (unfold rng; (repeat' split) <;> omega)), ?_⟩
                        refine ih85 _ _ _ ?_ ?_ ?_ ?_
                        · exact rτ85
                        · exact fτ85
                        · refine ⟨?_, ?_, ?_⟩; exact (by first | exact pt9 | exact PtI.fr (jx := jx) (K := [120]) (S := []) pt9 (by repeat (first | exact Fr.rf | assumption | refine Fr.aJ g ?_ (by decide) | refine Fr.aI g ?_ (by decide) | refine Fr.sI g ?_ (by decide) | refine Fr.sJ g ?_ (by decide))) (by decide) (by decide)); exact (by first | exact so9 | exact SoI.fr (jx := jx) (rm := rm) (K := [120]) (S := []) so9 (by repeat (first | exact Fr.rf | assumption | refine Fr.aJ g ?_ (by decide) | refine Fr.aI g ?_ (by decide) | refine Fr.sI g ?_ (by decide) | refine Fr.sJ g ?_ (by decide))) (by decide)); exact (by refine ⟨by omega, by omega, by omega, by omega, by omega, fun i hi => ?_⟩ <;> (try simp only [rII, rIJ, rIP, rJJ, rJI, rJP, rPP, rPI, rPJ, g1, g2, g3, g4, g5, g6, g7, g8, Nat.reduceEqDiff, Nat.reduceAdd, false_and, and_false, true_and, and_true, reduceIte, nZ0, nZ1, eτ85_118.1, eτ85_118.2, fun a k => (jτ85 a k).1, fun a k => (jτ85 a k).2, pτ85]) <;> first | omega | exact hps9 i (by omega))
                        · (try simp only [rII, rIJ, rIP, rJJ, rJI, rJP, rPP, rPI, rPJ, g1, g2, g3, g4, g5, g6, g7, g8, Nat.reduceEqDiff, Nat.reduceAdd, false_and, and_false, true_and, and_true, reduceIte, nZ0, nZ1, eτ85_118.1, eτ85_118.2, fun a k => (jτ85 a k).1, fun a k => (jτ85 a k).2, pτ85]) <;> (first | omega | with_reducible assumption | (unfold rng; omega) | (unfold rng; (repeat' split) <;> omega))
                      · rename_i hc107
                        skip
                        unfold w_X16_passMatch_110
                        try simp only [forall_eq, rII, rIJ, rIP, rJJ, rJI, rJP, rPP, rPI, rPJ, g1, g2, g3, g4, g5, g6, g7, g8, Nat.reduceEqDiff, Nat.reduceAdd, false_and, and_false, true_and, and_true, reduceIte, nZ0, nZ1, eτ85_118.1, eτ85_118.2, fun a k => (jτ85 a k).1, fun a k => (jτ85 a k).2, pτ85]
                        have q9 := rτ85.1 119 (v8.toNat); simp only [rgT] at q9
                        refine ⟨by (first | omega | with_reducible assumption | (unfold rng; omega) | (unfold rng; (repeat' split) <;> omega)), ?_⟩
                        refine ⟨ja, by exact hj, hja, ?_⟩
                        refine ⟨by (first | omega | with_reducible assumption | (unfold rng; omega) | (unfold rng; (repeat' split) <;> omega)), ?_⟩
                        refine ⟨by (first | omega | with_reducible assumption | (unfold rng; omega) | (unfold rng; (repeat' split) <;> omega)), ?_⟩
                        refine ⟨by (first | omega | with_reducible assumption | (unfold rng; omega) | (unfold rng; (repeat' split) <;> omega)), ?_⟩
                        split
                        · rename_i hc133
                          skip
                          unfold w_X16_passMatch_139
                          try simp only [forall_eq, rII, rIJ, rIP, rJJ, rJI, rJP, rPP, rPI, rPJ, g1, g2, g3, g4, g5, g6, g7, g8, Nat.reduceEqDiff, Nat.reduceAdd, false_and, and_false, true_and, and_true, reduceIte, nZ0, nZ1, eτ85_118.1, eτ85_118.2, fun a k => (jτ85 a k).1, fun a k => (jτ85 a k).2, pτ85]
                          refine ⟨by (first | omega | with_reducible assumption | (unfold rng; omega) | (unfold rng; (repeat' split) <;> omega)), ?_⟩
                          refine s_X16_load g (by refine Rg.aI g ?_ (by simp only [rgT]; first | with_reducible exact nZ_rng _ | with_reducible exact nB_rng _ | with_reducible exact wr_rng _ | with_reducible exact i32any _ | (first | omega | with_reducible assumption | (unfold rng; omega) | (unfold rng; (repeat' split) <;> omega))); exact rτ85) (by (try simp only [rII, rIJ, rIP, rJJ, rJI, rJP, rPP, rPI, rPJ, g1, g2, g3, g4, g5, g6, g7, g8, Nat.reduceEqDiff, Nat.reduceAdd, false_and, and_false, true_and, and_true, reduceIte, nZ0, nZ1, eτ85_118.1, eτ85_118.2, fun a k => (jτ85 a k).1, fun a k => (jτ85 a k).2, pτ85]) <;> (first | omega | with_reducible assumption | (unfold rng; omega) | (unfold rng; (repeat' split) <;> omega))) (fun σ28 _ rσ28 fc p10 => ?_)
                          have fσ28 : Fr ra jx rm [20, 81, 82, 115, 116, 119, 120, 121, 122] [21, 117] σ σ28 := Fr.tr (by refine Fr.aI g ?_ (by decide); exact fτ85) (Fr.mor (fc) (by decide) (by decide))
                          have pt9 := PtI.fr (PtI.fr (jx := jx) (K := [120]) (S := []) pt9 (by repeat (first | exact Fr.rf | assumption | refine Fr.aJ g ?_ (by decide) | refine Fr.aI g ?_ (by decide) | refine Fr.sI g ?_ (by decide) | refine Fr.sJ g ?_ (by decide))) (by decide) (by decide)) fc (by decide) (by decide)
                          have so9 := SoI.fr (SoI.fr (jx := jx) (rm := rm) (K := [120]) (S := []) so9 (by repeat (first | exact Fr.rf | assumption | refine Fr.aJ g ?_ (by decide) | refine Fr.aI g ?_ (by decide) | refine Fr.sI g ?_ (by decide) | refine Fr.sJ g ?_ (by decide))) (by decide)) fc (by decide)
                          have hps9 : ∀ i : Nat, (i : Int) < v7 → gI σ28 (ra 122) i < gI σ (jx ja 12) v1.toNat := fun i hi => by rw [congrFun (fc.1 122 (by decide)).1 i]; simp only [rII, rIJ, rIP, rJJ, rJI, rJP, rPP, rPI, rPJ, g1, g2, g3, g4, g5, g6, g7, g8, Nat.reduceEqDiff, Nat.reduceAdd, false_and, and_false, true_and, and_true, reduceIte, nZ0, nZ1, eτ85_118.1, eτ85_118.2, fun a k => (jτ85 a k).1, fun a k => (jτ85 a k).2, pτ85]; exact hps9 i hi
                          have eσ28_118 := fσ28.1 118 (by decide)
                          have jσ28 := fσ28.2.2.1
                          have pσ28 := fσ28.2.2.2
                          try simp only [forall_eq, rII, rIJ, rIP, rJJ, rJI, rJP, rPP, rPI, rPJ, g1, g2, g3, g4, g5, g6, g7, g8, Nat.reduceEqDiff, Nat.reduceAdd, false_and, and_false, true_and, and_true, reduceIte, nZ0, nZ1, eσ28_118.1, eσ28_118.2, fun a k => (jσ28 a k).1, fun a k => (jσ28 a k).2, pσ28]
                          refine ⟨by (first | omega | with_reducible assumption | (unfold rng; omega) | (unfold rng; (repeat' split) <;> omega)), ?_⟩
                          refine s_X16_isSound g rσ28 (by first | exact hj | (rw [fσ28.2.2.2]; exact hj)) hja (by (try simp only [rII, rIJ, rIP, rJJ, rJI, rJP, rPP, rPI, rPJ, g1, g2, g3, g4, g5, g6, g7, g8, Nat.reduceEqDiff, Nat.reduceAdd, false_and, and_false, true_and, and_true, reduceIte, nZ0, nZ1, eσ28_118.1, eσ28_118.2, fun a k => (jσ28 a k).1, fun a k => (jσ28 a k).2, pσ28]) <;> (first | omega | with_reducible assumption | (unfold rng; omega) | (unfold rng; (repeat' split) <;> omega))) (by (try simp only [rII, rIJ, rIP, rJJ, rJI, rJP, rPP, rPI, rPJ, g1, g2, g3, g4, g5, g6, g7, g8, Nat.reduceEqDiff, Nat.reduceAdd, false_and, and_false, true_and, and_true, reduceIte, nZ0, nZ1, eσ28_118.1, eσ28_118.2, fun a k => (jσ28 a k).1, fun a k => (jσ28 a k).2, pσ28]) <;> exact fun k h0 h9 => PO.fr (hvs k h0 h9) hja fσ28 (by decide)) (fun σ29 r30 rσ29 fc p11 => ?_)
                          have fσ29 : Fr ra jx rm [20, 81, 82, 115, 116, 119, 120, 121, 122] [21, 117] σ σ29 := Fr.tr fσ28 (Fr.mor (fc) (by decide) (by decide))
                          have pt9 := PtI.fr (PtI.fr (jx := jx) (K := [120]) (S := []) pt9 (by repeat (first | exact Fr.rf | assumption | refine Fr.aJ g ?_ (by decide) | refine Fr.aI g ?_ (by decide) | refine Fr.sI g ?_ (by decide) | refine Fr.sJ g ?_ (by decide))) (by decide) (by decide)) fc (by decide) (by decide)
                          have so9 := SoI.fr (SoI.fr (jx := jx) (rm := rm) (K := [120]) (S := []) so9 (by repeat (first | exact Fr.rf | assumption | refine Fr.aJ g ?_ (by decide) | refine Fr.aI g ?_ (by decide) | refine Fr.sI g ?_ (by decide) | refine Fr.sJ g ?_ (by decide))) (by decide)) fc (by decide)
                          have hps9 : ∀ i : Nat, (i : Int) < v7 → gI σ29 (ra 122) i < gI σ (jx ja 12) v1.toNat := fun i hi => by rw [congrFun (fc.1 122 (by decide)).1 i]; exact hps9 i hi
                          have eσ29_118 := fσ29.1 118 (by decide)
                          have jσ29 := fσ29.2.2.1
                          have pσ29 := fσ29.2.2.2
                          try simp only [forall_eq, rII, rIJ, rIP, rJJ, rJI, rJP, rPP, rPI, rPJ, g1, g2, g3, g4, g5, g6, g7, g8, Nat.reduceEqDiff, Nat.reduceAdd, false_and, and_false, true_and, and_true, reduceIte, nZ0, nZ1, eσ29_118.1, eσ29_118.2, fun a k => (jσ29 a k).1, fun a k => (jσ29 a k).2, pσ29]
                          split
                          · rename_i hc165
                            skip
                            unfold w_X16_passMatch_186
                            try simp only [forall_eq, rII, rIJ, rIP, rJJ, rJI, rJP, rPP, rPI, rPJ, g1, g2, g3, g4, g5, g6, g7, g8, Nat.reduceEqDiff, Nat.reduceAdd, false_and, and_false, true_and, and_true, reduceIte, nZ0, nZ1, eσ29_118.1, eσ29_118.2, fun a k => (jσ29 a k).1, fun a k => (jσ29 a k).2, pσ29]
                            refine ⟨by (first | omega | with_reducible assumption | (unfold rng; omega) | (unfold rng; (repeat' split) <;> omega)), ?_⟩
                            refine ih85 _ _ _ ?_ ?_ ?_ ?_
                            · exact rσ29
                            · exact fσ29
                            · refine ⟨?_, ?_, ?_⟩; exact (by first | exact pt9 | exact PtI.fr (jx := jx) (K := [120]) (S := []) pt9 (by repeat (first | exact Fr.rf | assumption | refine Fr.aJ g ?_ (by decide) | refine Fr.aI g ?_ (by decide) | refine Fr.sI g ?_ (by decide) | refine Fr.sJ g ?_ (by decide))) (by decide) (by decide)); exact (by first | exact so9 | exact SoI.fr (jx := jx) (rm := rm) (K := [120]) (S := []) so9 (by repeat (first | exact Fr.rf | assumption | refine Fr.aJ g ?_ (by decide) | refine Fr.aI g ?_ (by decide) | refine Fr.sI g ?_ (by decide) | refine Fr.sJ g ?_ (by decide))) (by decide)); exact (by refine ⟨by omega, by omega, by omega, by omega, by omega, fun i hi => ?_⟩ <;> (try simp only [rII, rIJ, rIP, rJJ, rJI, rJP, rPP, rPI, rPJ, g1, g2, g3, g4, g5, g6, g7, g8, Nat.reduceEqDiff, Nat.reduceAdd, false_and, and_false, true_and, and_true, reduceIte, nZ0, nZ1, eσ29_118.1, eσ29_118.2, fun a k => (jσ29 a k).1, fun a k => (jσ29 a k).2, pσ29]) <;> first | omega | exact hps9 i (by omega))
                            · (try simp only [rII, rIJ, rIP, rJJ, rJI, rJP, rPP, rPI, rPJ, g1, g2, g3, g4, g5, g6, g7, g8, Nat.reduceEqDiff, Nat.reduceAdd, false_and, and_false, true_and, and_true, reduceIte, nZ0, nZ1, eσ29_118.1, eσ29_118.2, fun a k => (jσ29 a k).1, fun a k => (jσ29 a k).2, pσ29]) <;> (first | omega | with_reducible assumption | (unfold rng; omega) | (unfold rng; (repeat' split) <;> omega))
                          · rename_i hc165
                            skip
                            unfold w_X16_passMatch_168
                            try simp only [forall_eq, rII, rIJ, rIP, rJJ, rJI, rJP, rPP, rPI, rPJ, g1, g2, g3, g4, g5, g6, g7, g8, Nat.reduceEqDiff, Nat.reduceAdd, false_and, and_false, true_and, and_true, reduceIte, nZ0, nZ1, eσ29_118.1, eσ29_118.2, fun a k => (jσ29 a k).1, fun a k => (jσ29 a k).2, pσ29]
                            refine ⟨by (first | omega | with_reducible assumption | (unfold rng; omega) | (unfold rng; (repeat' split) <;> omega)), ?_⟩
                            refine s2_X16_matchOne g rσ29 (by first | exact hj | (rw [fσ29.2.2.2]; exact hj)) hja (by (try simp only [rII, rIJ, rIP, rJJ, rJI, rJP, rPP, rPI, rPJ, g1, g2, g3, g4, g5, g6, g7, g8, Nat.reduceEqDiff, Nat.reduceAdd, false_and, and_false, true_and, and_true, reduceIte, nZ0, nZ1, eσ29_118.1, eσ29_118.2, fun a k => (jσ29 a k).1, fun a k => (jσ29 a k).2, pσ29]) <;> (first | omega | with_reducible assumption | (unfold rng; omega) | (unfold rng; (repeat' split) <;> omega))) (by (try simp only [rII, rIJ, rIP, rJJ, rJI, rJP, rPP, rPI, rPJ, g1, g2, g3, g4, g5, g6, g7, g8, Nat.reduceEqDiff, Nat.reduceAdd, false_and, and_false, true_and, and_true, reduceIte, nZ0, nZ1, eσ29_118.1, eσ29_118.2, fun a k => (jσ29 a k).1, fun a k => (jσ29 a k).2, pσ29]) <;> (first | omega | with_reducible assumption | (unfold rng; omega) | (unfold rng; (repeat' split) <;> omega))) (by (try simp only [rII, rIJ, rIP, rJJ, rJI, rJP, rPP, rPI, rPJ, g1, g2, g3, g4, g5, g6, g7, g8, Nat.reduceEqDiff, Nat.reduceAdd, false_and, and_false, true_and, and_true, reduceIte, nZ0, nZ1, eσ29_118.1, eσ29_118.2, fun a k => (jσ29 a k).1, fun a k => (jσ29 a k).2, pσ29]) <;> exact fun k h0 h9 => PO.fr (hvs k h0 h9) hja fσ29 (by decide)) (by (try simp only [rII, rIJ, rIP, rJJ, rJI, rJP, rPP, rPI, rPJ, g1, g2, g3, g4, g5, g6, g7, g8, Nat.reduceEqDiff, Nat.reduceAdd, false_and, and_false, true_and, and_true, reduceIte, nZ0, nZ1, eσ29_118.1, eσ29_118.2, fun a k => (jσ29 a k).1, fun a k => (jσ29 a k).2, pσ29]) <;> exact hva) (by (try simp only [rII, rIJ, rIP, rJJ, rJI, rJP, rPP, rPI, rPJ, g1, g2, g3, g4, g5, g6, g7, g8, Nat.reduceEqDiff, Nat.reduceAdd, false_and, and_false, true_and, and_true, reduceIte, nZ0, nZ1, eσ29_118.1, eσ29_118.2, fun a k => (jσ29 a k).1, fun a k => (jσ29 a k).2, pσ29]) <;> exact hps9) (by first | exact pt9 | exact PtI.fr (jx := jx) (K := [120]) (S := []) pt9 (by repeat (first | exact Fr.rf | assumption | refine Fr.aJ g ?_ (by decide) | refine Fr.aI g ?_ (by decide) | refine Fr.sI g ?_ (by decide) | refine Fr.sJ g ?_ (by decide))) (by decide) (by decide)) hA (by (try simp only [rII, rIJ, rIP, rJJ, rJI, rJP, rPP, rPI, rPJ, g1, g2, g3, g4, g5, g6, g7, g8, Nat.reduceEqDiff, Nat.reduceAdd, false_and, and_false, true_and, and_true, reduceIte, nZ0, nZ1, eσ29_118.1, eσ29_118.2, fun a k => (jσ29 a k).1, fun a k => (jσ29 a k).2, pσ29]) <;> exact PtI.lo pt9 (by omega) (by omega)) (fun σ31 r32 rσ31 fc p12 => ?_) (fun σx E rx fx px => hX _ _ rx (Fr.tr fσ29 (Fr.mor (fx) (by decide) (by decide))) px)
                            have fσ31 : Fr ra jx rm [20, 81, 82, 115, 116, 119, 120, 121, 122] [21, 117] σ σ31 := Fr.tr fσ29 (Fr.mor (fc) (by decide) (by decide))
                            have pt9 := p12.1
                            have so9 := SoI.fr (SoI.fr (jx := jx) (rm := rm) (K := [120]) (S := []) so9 (by repeat (first | exact Fr.rf | assumption | refine Fr.aJ g ?_ (by decide) | refine Fr.aI g ?_ (by decide) | refine Fr.sI g ?_ (by decide) | refine Fr.sJ g ?_ (by decide))) (by decide)) fc (by decide)
                            have hps9 := p12.2.2.2
                            simp only [rII, rIJ, rIP, rJJ, rJI, rJP, rPP, rPI, rPJ, g1, g2, g3, g4, g5, g6, g7, g8, Nat.reduceEqDiff, Nat.reduceAdd, false_and, and_false, true_and, and_true, reduceIte, nZ0, nZ1, eσ29_118.1, eσ29_118.2, fun a k => (jσ29 a k).1, fun a k => (jσ29 a k).2, pσ29] at hps9
                            have eσ31_118 := fσ31.1 118 (by decide)
                            have jσ31 := fσ31.2.2.1
                            have pσ31 := fσ31.2.2.2
                            try simp only [forall_eq, rII, rIJ, rIP, rJJ, rJI, rJP, rPP, rPI, rPJ, g1, g2, g3, g4, g5, g6, g7, g8, Nat.reduceEqDiff, Nat.reduceAdd, false_and, and_false, true_and, and_true, reduceIte, nZ0, nZ1, eσ31_118.1, eσ31_118.2, fun a k => (jσ31 a k).1, fun a k => (jσ31 a k).2, pσ31]
                            unfold w_X16_passMatch_186
                            try simp only [forall_eq, rII, rIJ, rIP, rJJ, rJI, rJP, rPP, rPI, rPJ, g1, g2, g3, g4, g5, g6, g7, g8, Nat.reduceEqDiff, Nat.reduceAdd, false_and, and_false, true_and, and_true, reduceIte, nZ0, nZ1, eσ31_118.1, eσ31_118.2, fun a k => (jσ31 a k).1, fun a k => (jσ31 a k).2, pσ31]
                            refine ⟨by (first | omega | with_reducible assumption | (unfold rng; omega) | (unfold rng; (repeat' split) <;> omega)), ?_⟩
                            refine ih85 _ _ _ ?_ ?_ ?_ ?_
                            · exact rσ31
                            · exact fσ31
                            · refine ⟨?_, ?_, ?_⟩; exact (by first | exact pt9 | exact PtI.fr (jx := jx) (K := [120]) (S := []) pt9 (by repeat (first | exact Fr.rf | assumption | refine Fr.aJ g ?_ (by decide) | refine Fr.aI g ?_ (by decide) | refine Fr.sI g ?_ (by decide) | refine Fr.sJ g ?_ (by decide))) (by decide) (by decide)); exact (by first | exact so9 | exact SoI.fr (jx := jx) (rm := rm) (K := [120]) (S := []) so9 (by repeat (first | exact Fr.rf | assumption | refine Fr.aJ g ?_ (by decide) | refine Fr.aI g ?_ (by decide) | refine Fr.sI g ?_ (by decide) | refine Fr.sJ g ?_ (by decide))) (by decide)); exact (by refine ⟨by omega, by omega, by omega, by omega, by omega, fun i hi => ?_⟩ <;> (try simp only [rII, rIJ, rIP, rJJ, rJI, rJP, rPP, rPI, rPJ, g1, g2, g3, g4, g5, g6, g7, g8, Nat.reduceEqDiff, Nat.reduceAdd, false_and, and_false, true_and, and_true, reduceIte, nZ0, nZ1, eσ31_118.1, eσ31_118.2, fun a k => (jσ31 a k).1, fun a k => (jσ31 a k).2, pσ31]) <;> first | omega | exact hps9 i (by omega))
                            · (try simp only [rII, rIJ, rIP, rJJ, rJI, rJP, rPP, rPI, rPJ, g1, g2, g3, g4, g5, g6, g7, g8, Nat.reduceEqDiff, Nat.reduceAdd, false_and, and_false, true_and, and_true, reduceIte, nZ0, nZ1, eσ31_118.1, eσ31_118.2, fun a k => (jσ31 a k).1, fun a k => (jσ31 a k).2, pσ31]) <;> (first | omega | with_reducible assumption | (unfold rng; omega) | (unfold rng; (repeat' split) <;> omega))
                        · rename_i hc133
                          skip
                          unfold w_X16_passMatch_136
                          try simp only [forall_eq, rII, rIJ, rIP, rJJ, rJI, rJP, rPP, rPI, rPJ, g1, g2, g3, g4, g5, g6, g7, g8, Nat.reduceEqDiff, Nat.reduceAdd, false_and, and_false, true_and, and_true, reduceIte, nZ0, nZ1, eτ85_118.1, eτ85_118.2, fun a k => (jτ85 a k).1, fun a k => (jτ85 a k).2, pτ85]
                          unfold w_X16_passMatch_186
                          try simp only [forall_eq, rII, rIJ, rIP, rJJ, rJI, rJP, rPP, rPI, rPJ, g1, g2, g3, g4, g5, g6, g7, g8, Nat.reduceEqDiff, Nat.reduceAdd, false_and, and_false, true_and, and_true, reduceIte, nZ0, nZ1, eτ85_118.1, eτ85_118.2, fun a k => (jτ85 a k).1, fun a k => (jτ85 a k).2, pτ85]
                          refine ⟨by (first | omega | with_reducible assumption | (unfold rng; omega) | (unfold rng; (repeat' split) <;> omega)), ?_⟩
                          refine ih85 _ _ _ ?_ ?_ ?_ ?_
                          · exact rτ85
                          · exact fτ85
                          · refine ⟨?_, ?_, ?_⟩; exact (by first | exact pt9 | exact PtI.fr (jx := jx) (K := [120]) (S := []) pt9 (by repeat (first | exact Fr.rf | assumption | refine Fr.aJ g ?_ (by decide) | refine Fr.aI g ?_ (by decide) | refine Fr.sI g ?_ (by decide) | refine Fr.sJ g ?_ (by decide))) (by decide) (by decide)); exact (by first | exact so9 | exact SoI.fr (jx := jx) (rm := rm) (K := [120]) (S := []) so9 (by repeat (first | exact Fr.rf | assumption | refine Fr.aJ g ?_ (by decide) | refine Fr.aI g ?_ (by decide) | refine Fr.sI g ?_ (by decide) | refine Fr.sJ g ?_ (by decide))) (by decide)); exact (by refine ⟨by omega, by omega, by omega, by omega, by omega, fun i hi => ?_⟩ <;> (try simp only [rII, rIJ, rIP, rJJ, rJI, rJP, rPP, rPI, rPJ, g1, g2, g3, g4, g5, g6, g7, g8, Nat.reduceEqDiff, Nat.reduceAdd, false_and, and_false, true_and, and_true, reduceIte, nZ0, nZ1, eτ85_118.1, eτ85_118.2, fun a k => (jτ85 a k).1, fun a k => (jτ85 a k).2, pτ85]) <;> first | omega | exact hps9 i (by omega))
                          · (try simp only [rII, rIJ, rIP, rJJ, rJI, rJP, rPP, rPI, rPJ, g1, g2, g3, g4, g5, g6, g7, g8, Nat.reduceEqDiff, Nat.reduceAdd, false_and, and_false, true_and, and_true, reduceIte, nZ0, nZ1, eτ85_118.1, eτ85_118.2, fun a k => (jτ85 a k).1, fun a k => (jτ85 a k).2, pτ85]) <;> (first | omega | with_reducible assumption | (unfold rng; omega) | (unfold rng; (repeat' split) <;> omega))
                refine ⟨_, L85 _ _ _ _ ?_ ?_ ?_ (Nat.lt_succ_self _)⟩
                · exact rτ32
                · exact fτ32
                · refine ⟨?_, ?_, ?_⟩; exact (by first | exact pt9 | exact PtI.fr (jx := jx) (K := [120]) (S := []) pt9 (by repeat (first | exact Fr.rf | assumption | refine Fr.aJ g ?_ (by decide) | refine Fr.aI g ?_ (by decide) | refine Fr.sI g ?_ (by decide) | refine Fr.sJ g ?_ (by decide))) (by decide) (by decide)); exact (by first | exact so9 | exact SoI.fr (jx := jx) (rm := rm) (K := [120]) (S := []) so9 (by repeat (first | exact Fr.rf | assumption | refine Fr.aJ g ?_ (by decide) | refine Fr.aI g ?_ (by decide) | refine Fr.sI g ?_ (by decide) | refine Fr.sJ g ?_ (by decide))) (by decide)); exact (by refine ⟨by omega, by omega, by omega, by omega, by omega, fun i hi => ?_⟩ <;> (try simp only [rII, rIJ, rIP, rJJ, rJI, rJP, rPP, rPI, rPJ, g1, g2, g3, g4, g5, g6, g7, g8, Nat.reduceEqDiff, Nat.reduceAdd, false_and, and_false, true_and, and_true, reduceIte, nZ0, nZ1, eτ32_118.1, eτ32_118.2, fun a k => (jτ32 a k).1, fun a k => (jτ32 a k).2, pτ32]) <;> first | omega | exact hps9 i (by omega))
              · rename_i hc45
                skip
                unfold w_X16_passMatch_48
                try simp only [forall_eq, rII, rIJ, rIP, rJJ, rJI, rJP, rPP, rPI, rPJ, g1, g2, g3, g4, g5, g6, g7, g8, Nat.reduceEqDiff, Nat.reduceAdd, false_and, and_false, true_and, and_true, reduceIte, nZ0, nZ1, eτ32_118.1, eτ32_118.2, fun a k => (jτ32 a k).1, fun a k => (jτ32 a k).2, pτ32]
                unfold w_X16_passMatch_192
                try simp only [forall_eq, rII, rIJ, rIP, rJJ, rJI, rJP, rPP, rPI, rPJ, g1, g2, g3, g4, g5, g6, g7, g8, Nat.reduceEqDiff, Nat.reduceAdd, false_and, and_false, true_and, and_true, reduceIte, nZ0, nZ1, eτ32_118.1, eτ32_118.2, fun a k => (jτ32 a k).1, fun a k => (jτ32 a k).2, pτ32]
                refine ⟨by (first | omega | with_reducible assumption | (unfold rng; omega) | (unfold rng; (repeat' split) <;> omega)), ?_⟩
                refine ih32 _ _ ?_ ?_ ?_ ?_
                · exact rτ32
                · exact fτ32
                · refine ⟨?_, ?_, ?_⟩; exact (by first | exact pt9 | exact PtI.fr (jx := jx) (K := [120]) (S := []) pt9 (by repeat (first | exact Fr.rf | assumption | refine Fr.aJ g ?_ (by decide) | refine Fr.aI g ?_ (by decide) | refine Fr.sI g ?_ (by decide) | refine Fr.sJ g ?_ (by decide))) (by decide) (by decide)); exact (by first | exact so9 | exact SoI.fr (jx := jx) (rm := rm) (K := [120]) (S := []) so9 (by repeat (first | exact Fr.rf | assumption | refine Fr.aJ g ?_ (by decide) | refine Fr.aI g ?_ (by decide) | refine Fr.sI g ?_ (by decide) | refine Fr.sJ g ?_ (by decide))) (by decide)); exact (by (first | omega | with_reducible assumption | (unfold rng; omega) | (unfold rng; (repeat' split) <;> omega)))
                · (try simp only [rII, rIJ, rIP, rJJ, rJI, rJP, rPP, rPI, rPJ, g1, g2, g3, g4, g5, g6, g7, g8, Nat.reduceEqDiff, Nat.reduceAdd, false_and, and_false, true_and, and_true, reduceIte, nZ0, nZ1, eτ32_118.1, eτ32_118.2, fun a k => (jτ32 a k).1, fun a k => (jτ32 a k).2, pτ32]) <;> (first | omega | with_reducible assumption | (unfold rng; omega) | (unfold rng; (repeat' split) <;> omega))
        refine ⟨_, L32 _ _ _ ?_ ?_ ?_ (Nat.lt_succ_self _)⟩
        · exact rτ9
        · exact fτ9
        · refine ⟨?_, ?_, ?_⟩; exact (by first | exact pt9 | exact PtI.fr (jx := jx) (K := [120]) (S := []) pt9 (by repeat (first | exact Fr.rf | assumption | refine Fr.aJ g ?_ (by decide) | refine Fr.aI g ?_ (by decide) | refine Fr.sI g ?_ (by decide) | refine Fr.sJ g ?_ (by decide))) (by decide) (by decide)); exact (by first | exact so9 | exact SoI.fr (jx := jx) (rm := rm) (K := [120]) (S := []) so9 (by repeat (first | exact Fr.rf | assumption | refine Fr.aJ g ?_ (by decide) | refine Fr.aI g ?_ (by decide) | refine Fr.sI g ?_ (by decide) | refine Fr.sJ g ?_ (by decide))) (by decide)); exact (by (first | omega | with_reducible assumption | (unfold rng; omega) | (unfold rng; (repeat' split) <;> omega)))
      · rename_i hc12
        skip
        unfold w_X16_passMatch_15
        try simp only [forall_eq, rII, rIJ, rIP, rJJ, rJI, rJP, rPP, rPI, rPJ, g1, g2, g3, g4, g5, g6, g7, g8, Nat.reduceEqDiff, Nat.reduceAdd, false_and, and_false, true_and, and_true, reduceIte, nZ0, nZ1, eτ9_118.1, eτ9_118.2, fun a k => (jτ9 a k).1, fun a k => (jτ9 a k).2, pτ9]
        refine ⟨by (first | omega | with_reducible assumption | (unfold rng; omega) | (unfold rng; (repeat' split) <;> omega)), ?_⟩
        refine ⟨by (first | omega | with_reducible assumption | (unfold rng; omega) | (unfold rng; (repeat' split) <;> omega)), ?_⟩
        refine ih9 _ _ ?_ ?_ ?_ ?_
        · refine Rg.aI g ?_ (by simp only [rgT]; first | with_reducible exact nZ_rng _ | with_reducible exact nB_rng _ | with_reducible exact wr_rng _ | with_reducible exact i32any _ | (first | omega | with_reducible assumption | (unfold rng; omega) | (unfold rng; (repeat' split) <;> omega))); exact rτ9
        · refine Fr.aI g ?_ (by decide); exact fτ9
        · refine ⟨?_, ?_, ?_⟩; exact (by first | exact pt9 | exact PtI.fr (jx := jx) (K := [120]) (S := []) pt9 (by repeat (first | exact Fr.rf | assumption | refine Fr.aJ g ?_ (by decide) | refine Fr.aI g ?_ (by decide) | refine Fr.sI g ?_ (by decide) | refine Fr.sJ g ?_ (by decide))) (by decide) (by decide)); exact (by first | exact so9 | exact SoI.fr (jx := jx) (rm := rm) (K := [120]) (S := []) so9 (by repeat (first | exact Fr.rf | assumption | refine Fr.aJ g ?_ (by decide) | refine Fr.aI g ?_ (by decide) | refine Fr.sI g ?_ (by decide) | refine Fr.sJ g ?_ (by decide))) (by decide)); exact (by (first | omega | with_reducible assumption | (unfold rng; omega) | (unfold rng; (repeat' split) <;> omega)))
        · (try simp only [rII, rIJ, rIP, rJJ, rJI, rJP, rPP, rPI, rPJ, g1, g2, g3, g4, g5, g6, g7, g8, Nat.reduceEqDiff, Nat.reduceAdd, false_and, and_false, true_and, and_true, reduceIte, nZ0, nZ1, eτ9_118.1, eτ9_118.2, fun a k => (jτ9 a k).1, fun a k => (jτ9 a k).2, pτ9]) <;> (first | omega | with_reducible assumption | (unfold rng; omega) | (unfold rng; (repeat' split) <;> omega))
  refine ⟨_, L9 _ _ _ ?_ ?_ ?_ (Nat.lt_succ_self _)⟩
  · exact rσ23
  · exact fσ23
  · refine ⟨?_, ?_, ?_⟩; exact (by first | exact pt9 | exact PtI.fr (jx := jx) (K := [120]) (S := []) pt9 (by repeat (first | exact Fr.rf | assumption | refine Fr.aJ g ?_ (by decide) | refine Fr.aI g ?_ (by decide) | refine Fr.sI g ?_ (by decide) | refine Fr.sJ g ?_ (by decide))) (by decide) (by decide)); exact (by first | exact so9 | exact SoI.fr (jx := jx) (rm := rm) (K := [120]) (S := []) so9 (by repeat (first | exact Fr.rf | assumption | refine Fr.aJ g ?_ (by decide) | refine Fr.aI g ?_ (by decide) | refine Fr.sI g ?_ (by decide) | refine Fr.sJ g ?_ (by decide))) (by decide)); exact (by (first | omega | with_reducible assumption | (unfold rng; omega) | (unfold rng; (repeat' split) <;> omega)))
set_option maxHeartbeats 4000000 in
theorem s2_X16_passSource {ra : Nat → Nat} {jx : Nat → Nat → Nat} {rm : Nat} {ja : Nat} {b : Int} {A : Int} (g : Geo ra jx rm) {σ : Sg} {v1 : Int} (rσ : Rg ra jx rm σ) (hj : gP σ rm 17 = some ja) (hja : ja = ra 15 ∨ ja = ra 16) (h1 : 0 ≤ v1 ∧ v1 < 16) (hcol : gI σ (jx ja 6) v1.toNat ≤ 4) (hs1 : 0 ≤ (gJ σ (jx ja 8) v1.toNat).toInt32.toInt ∧ (gJ σ (jx ja 8) v1.toNat).toInt32.toInt < 4) (hpt : PtI ra rm σ b A) (hA : 1000000 ≤ A ∧ A ≤ 2000000) {Q : Sg → Unit → Prop} {X : Sg → String → Prop} (hQ : ∀ (σ' : Sg) (r : Unit), Rg ra jx rm σ' → Fr ra jx rm [81, 115, 116] [117] σ σ' → (PtI ra rm σ' b A ∧ (True)) → Q σ' r) (hX : ∀ (σ' : Sg) (E : String), Rg ra jx rm σ' → Fr ra jx rm [81, 115, 116] [117] σ σ' → (E = "StreamHouseModel$Broken") → X σ' E) : wp_X16_passSource ra jx rm v1 σ Q X := by
  obtain ⟨g1, g2, g3, g4, g5, g6, g7, g8⟩ := id g
  have fσ : Fr ra jx rm [81, 115, 116] [117] σ σ := Fr.rf
  have pt9 := hpt
  unfold wp_X16_passSource
  unfold w_X16_passSource_0
  try simp only [forall_eq, rII, rIJ, rIP, rJJ, rJI, rJP, rPP, rPI, rPJ, g1, g2, g3, g4, g5, g6, g7, g8, Nat.reduceEqDiff, Nat.reduceAdd, false_and, and_false, true_and, and_true, reduceIte, nZ0, nZ1]
  refine ⟨ja, by exact hj, hja, ?_⟩
  refine ⟨by (first | omega | with_reducible assumption | (unfold rng; omega) | (unfold rng; (repeat' split) <;> omega) | grind), ?_⟩
  refine ⟨by (first | omega | with_reducible assumption | (unfold rng; omega) | (unfold rng; (repeat' split) <;> omega) | grind), ?_⟩
  have q1 := rσ.1 22 (((gJ σ (jx ja 8) v1.toNat).toInt32.toInt).toNat); simp only [rgT] at q1
  have L26 : ∀ (fu26 : Nat) (τ26 : Sg) (v3 : Int64) (v5 : Int64) (v7 : Int), Rg ra jx rm τ26 → Fr ra jx rm [81, 115, 116] [117] σ τ26 → (PtI ra rm τ26 b A ∧ ((64 * (gJ σ (jx ja 8) v1.toNat).toInt32.toInt ≤ v7 ∧ v7 ≤ 64 * (gJ σ (jx ja 8) v1.toNat).toInt32.toInt + gI σ (ra 22) ((gJ σ (jx ja 8) v1.toNat).toInt32.toInt).toNat) ∧ -1 ≤ v3.toInt)) → ((256 - v7).toNat) < fu26 → wl_X16_passSource_26 ra jx rm Q X fu26 τ26 v1 (((gJ σ (jx ja 8) v1.toNat)).toInt32.toInt) v3 v5 v7 := by
    intro fu26
    induction fu26 with
    | zero => intro τ26 _ _ _ _ _ _ h9; omega
    | succ fu26 ih26 =>
      intro τ26 v3 v5 v7 rτ26 fτ26 hi26 hm26
      unfold wl_X16_passSource_26
      have eτ26_22 := fτ26.1 22 (by decide)
      have eτ26_23 := fτ26.1 23 (by decide)
      have eτ26_24 := fτ26.1 24 (by decide)
      have jτ26 := fτ26.2.2.1
      have pτ26 := fτ26.2.2.2
      unfold w_X16_passSource_26
      try simp only [forall_eq, rII, rIJ, rIP, rJJ, rJI, rJP, rPP, rPI, rPJ, g1, g2, g3, g4, g5, g6, g7, g8, Nat.reduceEqDiff, Nat.reduceAdd, false_and, and_false, true_and, and_true, reduceIte, nZ0, nZ1, eτ26_22.1, eτ26_22.2, eτ26_23.1, eτ26_23.2, eτ26_24.1, eτ26_24.2, fun a k => (jτ26 a k).1, fun a k => (jτ26 a k).2, pτ26]
      obtain ⟨pt9, hi26⟩ := hi26
      have w3 := hi26.2
      refine ⟨by (first | omega | with_reducible assumption | (unfold rng; omega) | (unfold rng; (repeat' split) <;> omega) | grind), ?_⟩
      refine ⟨by (first | omega | with_reducible assumption | (unfold rng; omega) | (unfold rng; (repeat' split) <;> omega) | grind), ?_⟩
      have q2 := rσ.1 22 ((((gJ σ (jx ja 8) v1.toNat)).toInt32.toInt).toNat); simp only [rgT] at q2
      refine ⟨by (first | omega | with_reducible assumption | (unfold rng; omega) | (unfold rng; (repeat' split) <;> omega) | grind), ?_⟩
      split
      · rename_i hc39
        skip
        unfold w_X16_passSource_162
        try simp only [forall_eq, rII, rIJ, rIP, rJJ, rJI, rJP, rPP, rPI, rPJ, g1, g2, g3, g4, g5, g6, g7, g8, Nat.reduceEqDiff, Nat.reduceAdd, false_and, and_false, true_and, and_true, reduceIte, nZ0, nZ1, eτ26_22.1, eτ26_22.2, eτ26_23.1, eτ26_23.2, eτ26_24.1, eτ26_24.2, fun a k => (jτ26 a k).1, fun a k => (jτ26 a k).2, pτ26]
        refine hQ _ _ ?_ ?_ ?_
        · exact rτ26
        · exact fτ26
        · refine ⟨(by first | exact pt9 | exact PtI.fr (jx := jx) (K := [81]) (S := []) pt9 (by repeat (first | exact Fr.rf | assumption | refine Fr.aJ g ?_ (by decide) | refine Fr.aI g ?_ (by decide) | refine Fr.sI g ?_ (by decide) | refine Fr.sJ g ?_ (by decide))) (by decide) (by decide)), ?_⟩; first | trivial | (first | omega | with_reducible assumption | (unfold rng; omega) | (unfold rng; (repeat' split) <;> omega) | grind)
      · rename_i hc39
        skip
        unfold w_X16_passSource_42
        try simp only [forall_eq, rII, rIJ, rIP, rJJ, rJI, rJP, rPP, rPI, rPJ, g1, g2, g3, g4, g5, g6, g7, g8, Nat.reduceEqDiff, Nat.reduceAdd, false_and, and_false, true_and, and_true, reduceIte, nZ0, nZ1, eτ26_22.1, eτ26_22.2, eτ26_23.1, eτ26_23.2, eτ26_24.1, eτ26_24.2, fun a k => (jτ26 a k).1, fun a k => (jτ26 a k).2, pτ26]
        refine ⟨by (first | omega | with_reducible assumption | (unfold rng; omega) | (unfold rng; (repeat' split) <;> omega) | grind), ?_⟩
        split
        · rename_i hc51
          skip
          unfold w_X16_passSource_156
          try simp only [forall_eq, rII, rIJ, rIP, rJJ, rJI, rJP, rPP, rPI, rPJ, g1, g2, g3, g4, g5, g6, g7, g8, Nat.reduceEqDiff, Nat.reduceAdd, false_and, and_false, true_and, and_true, reduceIte, nZ0, nZ1, eτ26_22.1, eτ26_22.2, eτ26_23.1, eτ26_23.2, eτ26_24.1, eτ26_24.2, fun a k => (jτ26 a k).1, fun a k => (jτ26 a k).2, pτ26]
          refine ⟨by (first | omega | with_reducible assumption | (unfold rng; omega) | (unfold rng; (repeat' split) <;> omega) | grind), ?_⟩
          refine ih26 _ _ _ _ ?_ ?_ ?_ ?_
          · exact rτ26
          · exact fτ26
          · refine ⟨?_, ?_⟩; exact (by first | exact pt9 | exact PtI.fr (jx := jx) (K := [81]) (S := []) pt9 (by repeat (first | exact Fr.rf | assumption | refine Fr.aJ g ?_ (by decide) | refine Fr.aI g ?_ (by decide) | refine Fr.sI g ?_ (by decide) | refine Fr.sJ g ?_ (by decide))) (by decide) (by decide)); exact (by refine ⟨⟨by omega, by omega⟩, ?_⟩; first | omega | decide | exact mx_lo w3 | exact w3)
          · (try simp only [rII, rIJ, rIP, rJJ, rJI, rJP, rPP, rPI, rPJ, g1, g2, g3, g4, g5, g6, g7, g8, Nat.reduceEqDiff, Nat.reduceAdd, false_and, and_false, true_and, and_true, reduceIte, nZ0, nZ1, eτ26_22.1, eτ26_22.2, eτ26_23.1, eτ26_23.2, eτ26_24.1, eτ26_24.2, fun a k => (jτ26 a k).1, fun a k => (jτ26 a k).2, pτ26]) <;> (first | omega | with_reducible assumption | (unfold rng; omega) | (unfold rng; (repeat' split) <;> omega) | grind)
        · rename_i hc51
          skip
          unfold w_X16_passSource_54
          try simp only [forall_eq, rII, rIJ, rIP, rJJ, rJI, rJP, rPP, rPI, rPJ, g1, g2, g3, g4, g5, g6, g7, g8, Nat.reduceEqDiff, Nat.reduceAdd, false_and, and_false, true_and, and_true, reduceIte, nZ0, nZ1, eτ26_22.1, eτ26_22.2, eτ26_23.1, eτ26_23.2, eτ26_24.1, eτ26_24.2, fun a k => (jτ26 a k).1, fun a k => (jτ26 a k).2, pτ26]
          have st9 := src_t (by assumption) w3
          have L57 : ∀ (fu57 : Nat) (τ57 : Sg) (v8 : Int), Rg ra jx rm τ57 → Fr ra jx rm [81, 115, 116] [117] σ τ57 → (PtI ra rm τ57 b A ∧ (0 ≤ v8 ∧ v8 ≤ 8)) → ((8 - v8).toNat) < fu57 → wl_X16_passSource_57 ra jx rm (wl_X16_passSource_26 ra jx rm Q X fu26) Q X fu57 τ57 v1 (((gJ σ (jx ja 8) v1.toNat)).toInt32.toInt) v3 v5 v7 v8 := by
            intro fu57
            induction fu57 with
            | zero => intro τ57 _ _ _ _ h9; omega
            | succ fu57 ih57 =>
              intro τ57 v8 rτ57 fτ57 hi57 hm57
              unfold wl_X16_passSource_57
              have eτ57_22 := fτ57.1 22 (by decide)
              have eτ57_23 := fτ57.1 23 (by decide)
              have eτ57_24 := fτ57.1 24 (by decide)
              have jτ57 := fτ57.2.2.1
              have pτ57 := fτ57.2.2.2
              unfold w_X16_passSource_57
              try simp only [forall_eq, rII, rIJ, rIP, rJJ, rJI, rJP, rPP, rPI, rPJ, g1, g2, g3, g4, g5, g6, g7, g8, Nat.reduceEqDiff, Nat.reduceAdd, false_and, and_false, true_and, and_true, reduceIte, nZ0, nZ1, eτ57_22.1, eτ57_22.2, eτ57_23.1, eτ57_23.2, eτ57_24.1, eτ57_24.2, fun a k => (jτ57 a k).1, fun a k => (jτ57 a k).2, pτ57]
              obtain ⟨pt9, hi57⟩ := hi57
              split
              · rename_i hc61
                skip
                unfold w_X16_passSource_107
                try simp only [forall_eq, rII, rIJ, rIP, rJJ, rJI, rJP, rPP, rPI, rPJ, g1, g2, g3, g4, g5, g6, g7, g8, Nat.reduceEqDiff, Nat.reduceAdd, false_and, and_false, true_and, and_true, reduceIte, nZ0, nZ1, eτ57_22.1, eτ57_22.2, eτ57_23.1, eτ57_23.2, eτ57_24.1, eτ57_24.2, fun a k => (jτ57 a k).1, fun a k => (jτ57 a k).2, pτ57]
                refine ⟨by (first | omega | with_reducible assumption | (unfold rng; omega) | (unfold rng; (repeat' split) <;> omega) | grind), ?_⟩
                refine s2_X16_pass (b3 := (ra 81)) (n3 := 8) g rτ57 rfl (Or.inl ⟨81, rfl, by decide⟩) (by (try simp only [rII, rIJ, rIP, rJJ, rJI, rJP, rPP, rPI, rPJ, g1, g2, g3, g4, g5, g6, g7, g8, Nat.reduceEqDiff, Nat.reduceAdd, false_and, and_false, true_and, and_true, reduceIte, nZ0, nZ1, eτ57_22.1, eτ57_22.2, eτ57_23.1, eτ57_23.2, eτ57_24.1, eτ57_24.2, fun a k => (jτ57 a k).1, fun a k => (jτ57 a k).2, pτ57]) <;> (first | omega | with_reducible assumption | (unfold rng; omega) | (unfold rng; (repeat' split) <;> omega) | grind)) (by (try simp only [rII, rIJ, rIP, rJJ, rJI, rJP, rPP, rPI, rPJ, g1, g2, g3, g4, g5, g6, g7, g8, Nat.reduceEqDiff, Nat.reduceAdd, false_and, and_false, true_and, and_true, reduceIte, nZ0, nZ1, eτ57_22.1, eτ57_22.2, eτ57_23.1, eτ57_23.2, eτ57_24.1, eτ57_24.2, fun a k => (jτ57 a k).1, fun a k => (jτ57 a k).2, pτ57]) <;> (first | omega | with_reducible assumption | (unfold rng; omega) | (unfold rng; (repeat' split) <;> omega) | grind)) (by first | exact pt9 | exact PtI.fr (jx := jx) (K := [81]) (S := []) pt9 (by repeat (first | exact Fr.rf | assumption | refine Fr.aJ g ?_ (by decide) | refine Fr.aI g ?_ (by decide) | refine Fr.sI g ?_ (by decide) | refine Fr.sJ g ?_ (by decide))) (by decide) (by decide)) hA (by have u9 := rσ.2.2.2 23 v7.toNat; simp only [rlT] at u9; (try simp only [rII, rIJ, rIP, rJJ, rJI, rJP, rPP, rPI, rPJ, g1, g2, g3, g4, g5, g6, g7, g8, Nat.reduceEqDiff, Nat.reduceAdd, false_and, and_false, true_and, and_true, reduceIte, nZ0, nZ1, eτ57_22.1, eτ57_22.2, eτ57_23.1, eτ57_23.2, eτ57_24.1, eτ57_24.2, fun a k => (jτ57 a k).1, fun a k => (jτ57 a k).2, pτ57]) <;> exact ⟨st9, by omega⟩) (fun σ12 _ rσ12 fc p3 => ?_) (fun σx E rx fx px => hX _ _ rx (Fr.tr fτ57 (Fr.mor (fx) (by decide) (by decide))) px)
                have fσ12 : Fr ra jx rm [81, 115, 116] [117] σ σ12 := Fr.tr fτ57 (Fr.mor (fc) (by decide) (by decide))
                have pt9 := p3.1
                have eσ12_22 := fσ12.1 22 (by decide)
                have eσ12_23 := fσ12.1 23 (by decide)
                have eσ12_24 := fσ12.1 24 (by decide)
                have jσ12 := fσ12.2.2.1
                have pσ12 := fσ12.2.2.2
                try simp only [forall_eq, rII, rIJ, rIP, rJJ, rJI, rJP, rPP, rPI, rPJ, g1, g2, g3, g4, g5, g6, g7, g8, Nat.reduceEqDiff, Nat.reduceAdd, false_and, and_false, true_and, and_true, reduceIte, nZ0, nZ1, eσ12_22.1, eσ12_22.2, eσ12_23.1, eσ12_23.2, eσ12_24.1, eσ12_24.2, fun a k => (jσ12 a k).1, fun a k => (jσ12 a k).2, pσ12]
                refine ⟨by (first | omega | with_reducible assumption | (unfold rng; omega) | (unfold rng; (repeat' split) <;> omega) | grind), ?_⟩
                refine ⟨ja, by exact hj, hja, ?_⟩
                refine ⟨by (first | omega | with_reducible assumption | (unfold rng; omega) | (unfold rng; (repeat' split) <;> omega) | grind), ?_⟩
                unfold w_X16_passSource_156
                try simp only [forall_eq, rII, rIJ, rIP, rJJ, rJI, rJP, rPP, rPI, rPJ, g1, g2, g3, g4, g5, g6, g7, g8, Nat.reduceEqDiff, Nat.reduceAdd, false_and, and_false, true_and, and_true, reduceIte, nZ0, nZ1, eσ12_22.1, eσ12_22.2, eσ12_23.1, eσ12_23.2, eσ12_24.1, eσ12_24.2, fun a k => (jσ12 a k).1, fun a k => (jσ12 a k).2, pσ12]
                refine ⟨by (first | omega | with_reducible assumption | (unfold rng; omega) | (unfold rng; (repeat' split) <;> omega) | grind), ?_⟩
                refine ih26 _ _ _ _ ?_ ?_ ?_ ?_
                · exact rσ12
                · exact fσ12
                · refine ⟨?_, ?_⟩; exact (by first | exact pt9 | exact PtI.fr (jx := jx) (K := [81]) (S := []) pt9 (by repeat (first | exact Fr.rf | assumption | refine Fr.aJ g ?_ (by decide) | refine Fr.aI g ?_ (by decide) | refine Fr.sI g ?_ (by decide) | refine Fr.sJ g ?_ (by decide))) (by decide) (by decide)); exact (by refine ⟨⟨by omega, by omega⟩, ?_⟩; first | omega | decide | exact mx_lo w3 | exact w3)
                · (try simp only [rII, rIJ, rIP, rJJ, rJI, rJP, rPP, rPI, rPJ, g1, g2, g3, g4, g5, g6, g7, g8, Nat.reduceEqDiff, Nat.reduceAdd, false_and, and_false, true_and, and_true, reduceIte, nZ0, nZ1, eσ12_22.1, eσ12_22.2, eσ12_23.1, eσ12_23.2, eσ12_24.1, eσ12_24.2, fun a k => (jσ12 a k).1, fun a k => (jσ12 a k).2, pσ12]) <;> (first | omega | with_reducible assumption | (unfold rng; omega) | (unfold rng; (repeat' split) <;> omega) | grind)
              · rename_i hc61
                skip
                unfold w_X16_passSource_64
                try simp only [forall_eq, rII, rIJ, rIP, rJJ, rJI, rJP, rPP, rPI, rPJ, g1, g2, g3, g4, g5, g6, g7, g8, Nat.reduceEqDiff, Nat.reduceAdd, false_and, and_false, true_and, and_true, reduceIte, nZ0, nZ1, eτ57_22.1, eτ57_22.2, eτ57_23.1, eτ57_23.2, eτ57_24.1, eτ57_24.2, fun a k => (jτ57 a k).1, fun a k => (jτ57 a k).2, pτ57]
                refine ⟨ja, by exact hj, hja, ?_⟩
                refine ⟨by (first | omega | with_reducible assumption | (unfold rng; omega) | (unfold rng; (repeat' split) <;> omega) | grind), ?_⟩
                have q4 := rσ.2.2.1 ja 6 (v1.toNat); simp only [rgJ] at q4
                split
                · rename_i hc81
                  skip
                  unfold w_X16_passSource_99
                  try simp only [forall_eq, rII, rIJ, rIP, rJJ, rJI, rJP, rPP, rPI, rPJ, g1, g2, g3, g4, g5, g6, g7, g8, Nat.reduceEqDiff, Nat.reduceAdd, false_and, and_false, true_and, and_true, reduceIte, nZ0, nZ1, eτ57_22.1, eτ57_22.2, eτ57_23.1, eτ57_23.2, eτ57_24.1, eτ57_24.2, fun a k => (jτ57 a k).1, fun a k => (jτ57 a k).2, pτ57]
                  unfold w_X16_passSource_100
                  try simp only [forall_eq, rII, rIJ, rIP, rJJ, rJI, rJP, rPP, rPI, rPJ, g1, g2, g3, g4, g5, g6, g7, g8, Nat.reduceEqDiff, Nat.reduceAdd, false_and, and_false, true_and, and_true, reduceIte, nZ0, nZ1, eτ57_22.1, eτ57_22.2, eτ57_23.1, eτ57_23.2, eτ57_24.1, eτ57_24.2, fun a k => (jτ57 a k).1, fun a k => (jτ57 a k).2, pτ57]
                  refine ⟨by (first | omega | with_reducible assumption | (unfold rng; omega) | (unfold rng; (repeat' split) <;> omega) | grind), ?_⟩
                  refine ⟨by (first | omega | with_reducible assumption | (unfold rng; omega) | (unfold rng; (repeat' split) <;> omega) | grind), ?_⟩
                  refine ih57 _ _ ?_ ?_ ?_ ?_
                  · refine Rg.aJ g ?_ (by simp only [rlT]; first | with_reducible assumption | omega | exact Int64.toInt_le _ | (rw [Int64.toInt_ofInt_of_le (by omega) (by omega)]; omega) | grind); exact rτ57
                  · refine Fr.aJ g ?_ (by decide); exact fτ57
                  · refine ⟨?_, ?_⟩; exact (by first | exact pt9 | exact PtI.fr (jx := jx) (K := [81]) (S := []) pt9 (by repeat (first | exact Fr.rf | assumption | refine Fr.aJ g ?_ (by decide) | refine Fr.aI g ?_ (by decide) | refine Fr.sI g ?_ (by decide) | refine Fr.sJ g ?_ (by decide))) (by decide) (by decide)); exact (by (first | omega | with_reducible assumption | (unfold rng; omega) | (unfold rng; (repeat' split) <;> omega) | grind))
                  · (try simp only [rII, rIJ, rIP, rJJ, rJI, rJP, rPP, rPI, rPJ, g1, g2, g3, g4, g5, g6, g7, g8, Nat.reduceEqDiff, Nat.reduceAdd, false_and, and_false, true_and, and_true, reduceIte, nZ0, nZ1, eτ57_22.1, eτ57_22.2, eτ57_23.1, eτ57_23.2, eτ57_24.1, eτ57_24.2, fun a k => (jτ57 a k).1, fun a k => (jτ57 a k).2, pτ57]) <;> (first | omega | with_reducible assumption | (unfold rng; omega) | (unfold rng; (repeat' split) <;> omega) | grind)
                · rename_i hc81
                  skip
                  unfold w_X16_passSource_84
                  try simp only [forall_eq, rII, rIJ, rIP, rJJ, rJI, rJP, rPP, rPI, rPJ, g1, g2, g3, g4, g5, g6, g7, g8, Nat.reduceEqDiff, Nat.reduceAdd, false_and, and_false, true_and, and_true, reduceIte, nZ0, nZ1, eτ57_22.1, eτ57_22.2, eτ57_23.1, eτ57_23.2, eτ57_24.1, eτ57_24.2, fun a k => (jτ57 a k).1, fun a k => (jτ57 a k).2, pτ57]
                  refine ⟨by (first | omega | with_reducible assumption | (unfold rng; omega) | (unfold rng; (repeat' split) <;> omega) | grind), ?_⟩
                  refine ⟨by (first | omega | with_reducible assumption | (unfold rng; omega) | (unfold rng; (repeat' split) <;> omega) | grind), ?_⟩
                  refine ⟨by (first | omega | with_reducible assumption | (unfold rng; omega) | (unfold rng; (repeat' split) <;> omega) | grind), ?_⟩
                  unfold w_X16_passSource_100
                  try simp only [forall_eq, rII, rIJ, rIP, rJJ, rJI, rJP, rPP, rPI, rPJ, g1, g2, g3, g4, g5, g6, g7, g8, Nat.reduceEqDiff, Nat.reduceAdd, false_and, and_false, true_and, and_true, reduceIte, nZ0, nZ1, eτ57_22.1, eτ57_22.2, eτ57_23.1, eτ57_23.2, eτ57_24.1, eτ57_24.2, fun a k => (jτ57 a k).1, fun a k => (jτ57 a k).2, pτ57]
                  refine ⟨by (first | omega | with_reducible assumption | (unfold rng; omega) | (unfold rng; (repeat' split) <;> omega) | grind), ?_⟩
                  refine ⟨by (first | omega | with_reducible assumption | (unfold rng; omega) | (unfold rng; (repeat' split) <;> omega) | grind), ?_⟩
                  refine ih57 _ _ ?_ ?_ ?_ ?_
                  · refine Rg.aJ g ?_ (by simp only [rlT]; first | with_reducible assumption | omega | exact Int64.toInt_le _ | (rw [Int64.toInt_ofInt_of_le (by omega) (by omega)]; omega) | grind); exact rτ57
                  · refine Fr.aJ g ?_ (by decide); exact fτ57
                  · refine ⟨?_, ?_⟩; exact (by first | exact pt9 | exact PtI.fr (jx := jx) (K := [81]) (S := []) pt9 (by repeat (first | exact Fr.rf | assumption | refine Fr.aJ g ?_ (by decide) | refine Fr.aI g ?_ (by decide) | refine Fr.sI g ?_ (by decide) | refine Fr.sJ g ?_ (by decide))) (by decide) (by decide)); exact (by (first | omega | with_reducible assumption | (unfold rng; omega) | (unfold rng; (repeat' split) <;> omega) | grind))
                  · (try simp only [rII, rIJ, rIP, rJJ, rJI, rJP, rPP, rPI, rPJ, g1, g2, g3, g4, g5, g6, g7, g8, Nat.reduceEqDiff, Nat.reduceAdd, false_and, and_false, true_and, and_true, reduceIte, nZ0, nZ1, eτ57_22.1, eτ57_22.2, eτ57_23.1, eτ57_23.2, eτ57_24.1, eτ57_24.2, fun a k => (jτ57 a k).1, fun a k => (jτ57 a k).2, pτ57]) <;> (first | omega | with_reducible assumption | (unfold rng; omega) | (unfold rng; (repeat' split) <;> omega) | grind)
          refine ⟨_, L57 _ _ _ ?_ ?_ ?_ (Nat.lt_succ_self _)⟩
          · exact rτ26
          · exact fτ26
          · refine ⟨?_, ?_⟩; exact (by first | exact pt9 | exact PtI.fr (jx := jx) (K := [81]) (S := []) pt9 (by repeat (first | exact Fr.rf | assumption | refine Fr.aJ g ?_ (by decide) | refine Fr.aI g ?_ (by decide) | refine Fr.sI g ?_ (by decide) | refine Fr.sJ g ?_ (by decide))) (by decide) (by decide)); exact (by (first | omega | with_reducible assumption | (unfold rng; omega) | (unfold rng; (repeat' split) <;> omega) | grind))
  refine ⟨_, L26 _ _ _ _ _ ?_ ?_ ?_ (Nat.lt_succ_self _)⟩
  · exact rσ
  · exact fσ
  · refine ⟨?_, ?_⟩; exact (by first | exact pt9 | exact PtI.fr (jx := jx) (K := [81]) (S := []) pt9 (by repeat (first | exact Fr.rf | assumption | refine Fr.aJ g ?_ (by decide) | refine Fr.aI g ?_ (by decide) | refine Fr.sI g ?_ (by decide) | refine Fr.sJ g ?_ (by decide))) (by decide) (by decide)); exact (by refine ⟨⟨by omega, by omega⟩, ?_⟩; first | omega | decide | exact mx_lo w3 | exact w3)
set_option maxHeartbeats 4000000 in
theorem s2_X16_gatherIn {ra : Nat → Nat} {jx : Nat → Nat → Nat} {rm : Nat} {ja : Nat} {b : Int} {A : Int} (g : Geo ra jx rm) {σ : Sg} {v1 : Int} {v2 : Int} {v3 : Int64} {v5 : Int64} {v7 : Int64} {v9 : Int} (rσ : Rg ra jx rm σ) (hj : gP σ rm 17 = some ja) (hja : ja = ra 15 ∨ ja = ra 16) (h1 : 0 ≤ v1 ∧ v1 < 16) (h2 : 0 ≤ v2) (hb9 : (v9 = 0 ∨ v9 = 1)) (hva : gI σ (jx ja 12) v1.toNat ≤ 7) (hpt : PtI ra rm σ b A) (hA : 1000000 ≤ A ∧ A ≤ 2000000) (hv : 0 ≤ v7.toInt ∧ v7.toInt ≤ A + 1000) (hbg : b ≤ v2) {Q : Sg → Unit → Prop} {X : Sg → String → Prop} (hQ : ∀ (σ' : Sg) (r : Unit), Rg ra jx rm σ' → Fr ra jx rm [82, 115, 116] [117] σ σ' → (PtI ra rm σ' b A ∧ (True)) → Q σ' r) (hX : ∀ (σ' : Sg) (E : String), Rg ra jx rm σ' → Fr ra jx rm [82, 115, 116] [117] σ σ' → (E = "StreamHouseModel$Broken") → X σ' E) : wp_X16_gatherIn ra jx rm v1 v2 v3 v5 v7 v9 σ Q X := by
  obtain ⟨g1, g2, g3, g4, g5, g6, g7, g8⟩ := id g
  have fσ : Fr ra jx rm [82, 115, 116] [117] σ σ := Fr.rf
  have pt9 := hpt
  unfold wp_X16_gatherIn
  unfold w_X16_gatherIn_0
  try simp only [forall_eq, rII, rIJ, rIP, rJJ, rJI, rJP, rPP, rPI, rPJ, g1, g2, g3, g4, g5, g6, g7, g8, Nat.reduceEqDiff, Nat.reduceAdd, false_and, and_false, true_and, and_true, reduceIte, nZ0, nZ1]
  have L10 : ∀ (fu10 : Nat) (τ10 : Sg) (v10 : Int), Rg ra jx rm τ10 → Fr ra jx rm [82, 115, 116] [117] σ τ10 → (PtI ra rm τ10 b A ∧ (v2 ≤ v10)) → ((4000 - v10).toNat) < fu10 → wl_X16_gatherIn_10 ra jx rm Q X fu10 τ10 v1 v3 v5 v7 v9 v10 := by
    intro fu10
    induction fu10 with
    | zero => intro τ10 _ _ _ _ h9; omega
    | succ fu10 ih10 =>
      intro τ10 v10 rτ10 fτ10 hi10 hm10
      unfold wl_X16_gatherIn_10
      have jτ10 := fτ10.2.2.1
      have pτ10 := fτ10.2.2.2
      unfold w_X16_gatherIn_10
      try simp only [forall_eq, rII, rIJ, rIP, rJJ, rJI, rJP, rPP, rPI, rPJ, g1, g2, g3, g4, g5, g6, g7, g8, Nat.reduceEqDiff, Nat.reduceAdd, false_and, and_false, true_and, and_true, reduceIte, nZ0, nZ1, fun a k => (jτ10 a k).1, fun a k => (jτ10 a k).2, pτ10]
      obtain ⟨pt9, hi10⟩ := hi10
      have q1 := rτ10.2.1 117; simp only [rgS] at q1
      split
      · rename_i hc16
        skip
        unfold w_X16_gatherIn_164
        try simp only [forall_eq, rII, rIJ, rIP, rJJ, rJI, rJP, rPP, rPI, rPJ, g1, g2, g3, g4, g5, g6, g7, g8, Nat.reduceEqDiff, Nat.reduceAdd, false_and, and_false, true_and, and_true, reduceIte, nZ0, nZ1, fun a k => (jτ10 a k).1, fun a k => (jτ10 a k).2, pτ10]
        refine s2_X16_pass (b3 := (ra 82)) (n3 := 16) g rτ10 rfl (Or.inl ⟨82, rfl, by decide⟩) (by (try simp only [rII, rIJ, rIP, rJJ, rJI, rJP, rPP, rPI, rPJ, g1, g2, g3, g4, g5, g6, g7, g8, Nat.reduceEqDiff, Nat.reduceAdd, false_and, and_false, true_and, and_true, reduceIte, nZ0, nZ1, fun a k => (jτ10 a k).1, fun a k => (jτ10 a k).2, pτ10]) <;> (first | omega | with_reducible assumption | (unfold rng; omega) | (unfold rng; (repeat' split) <;> omega) | grind)) (by (try simp only [rII, rIJ, rIP, rJJ, rJI, rJP, rPP, rPI, rPJ, g1, g2, g3, g4, g5, g6, g7, g8, Nat.reduceEqDiff, Nat.reduceAdd, false_and, and_false, true_and, and_true, reduceIte, nZ0, nZ1, fun a k => (jτ10 a k).1, fun a k => (jτ10 a k).2, pτ10]) <;> (first | omega | with_reducible assumption | (unfold rng; omega) | (unfold rng; (repeat' split) <;> omega) | grind)) (by first | exact pt9 | exact PtI.fr (jx := jx) (K := [82, 116]) (S := []) pt9 (by repeat (first | exact Fr.rf | assumption | refine Fr.aJ g ?_ (by decide) | refine Fr.aI g ?_ (by decide) | refine Fr.sI g ?_ (by decide) | refine Fr.sJ g ?_ (by decide))) (by decide) (by decide)) hA hv (fun σ18 _ rσ18 fc p2 => ?_) (fun σx E rx fx px => hX _ _ rx (Fr.tr fτ10 (Fr.mor (fx) (by decide) (by decide))) px)
        have fσ18 : Fr ra jx rm [82, 115, 116] [117] σ σ18 := Fr.tr fτ10 (Fr.mor (fc) (by decide) (by decide))
        have pt9 := p2.1
        have jσ18 := fσ18.2.2.1
        have pσ18 := fσ18.2.2.2
        try simp only [forall_eq, rII, rIJ, rIP, rJJ, rJI, rJP, rPP, rPI, rPJ, g1, g2, g3, g4, g5, g6, g7, g8, Nat.reduceEqDiff, Nat.reduceAdd, false_and, and_false, true_and, and_true, reduceIte, nZ0, nZ1, fun a k => (jσ18 a k).1, fun a k => (jσ18 a k).2, pσ18]
        refine hQ _ _ ?_ ?_ ?_
        · exact rσ18
        · exact fσ18
        · refine ⟨?_, trivial⟩; first | exact pt9 | exact PtI.set (r := v10) pt9 (by omega) (by (try simp only [rII, rIJ, rIP, rJJ, rJI, rJP, rPP, rPI, rPJ, g1, g2, g3, g4, g5, g6, g7, g8, Nat.reduceEqDiff, Nat.reduceAdd, false_and, and_false, true_and, and_true, reduceIte, nZ0, nZ1, fun a k => (jσ18 a k).1, fun a k => (jσ18 a k).2, pσ18])) (by intro i; (try simp only [rII, rIJ, rIP, rJJ, rJI, rJP, rPP, rPI, rPJ, g1, g2, g3, g4, g5, g6, g7, g8, Nat.reduceEqDiff, Nat.reduceAdd, false_and, and_false, true_and, and_true, reduceIte, nZ0, nZ1, fun a k => (jσ18 a k).1, fun a k => (jσ18 a k).2, pσ18])) hv
      · rename_i hc16
        skip
        unfold w_X16_gatherIn_19
        try simp only [forall_eq, rII, rIJ, rIP, rJJ, rJI, rJP, rPP, rPI, rPJ, g1, g2, g3, g4, g5, g6, g7, g8, Nat.reduceEqDiff, Nat.reduceAdd, false_and, and_false, true_and, and_true, reduceIte, nZ0, nZ1, fun a k => (jτ10 a k).1, fun a k => (jτ10 a k).2, pτ10]
        refine ⟨by (first | omega | with_reducible assumption | (unfold rng; omega) | (unfold rng; (repeat' split) <;> omega) | grind), ?_⟩
        refine ⟨by (first | omega | with_reducible assumption | (unfold rng; omega) | (unfold rng; (repeat' split) <;> omega) | grind), ?_⟩
        split
        · rename_i hc31
          skip
          unfold w_X16_gatherIn_158
          try simp only [forall_eq, rII, rIJ, rIP, rJJ, rJI, rJP, rPP, rPI, rPJ, g1, g2, g3, g4, g5, g6, g7, g8, Nat.reduceEqDiff, Nat.reduceAdd, false_and, and_false, true_and, and_true, reduceIte, nZ0, nZ1, fun a k => (jτ10 a k).1, fun a k => (jτ10 a k).2, pτ10]
          refine ⟨by (first | omega | with_reducible assumption | (unfold rng; omega) | (unfold rng; (repeat' split) <;> omega) | grind), ?_⟩
          refine ih10 _ _ ?_ ?_ ?_ ?_
          · exact rτ10
          · exact fτ10
          · refine ⟨?_, ?_⟩; exact (by first | exact pt9 | exact PtI.fr (jx := jx) (K := [82, 116]) (S := []) pt9 (by repeat (first | exact Fr.rf | assumption | refine Fr.aJ g ?_ (by decide) | refine Fr.aI g ?_ (by decide) | refine Fr.sI g ?_ (by decide) | refine Fr.sJ g ?_ (by decide))) (by decide) (by decide)); exact (by (first | omega | with_reducible assumption | (unfold rng; omega) | (unfold rng; (repeat' split) <;> omega) | grind))
          · (try simp only [rII, rIJ, rIP, rJJ, rJI, rJP, rPP, rPI, rPJ, g1, g2, g3, g4, g5, g6, g7, g8, Nat.reduceEqDiff, Nat.reduceAdd, false_and, and_false, true_and, and_true, reduceIte, nZ0, nZ1, fun a k => (jτ10 a k).1, fun a k => (jτ10 a k).2, pτ10]) <;> (first | omega | with_reducible assumption | (unfold rng; omega) | (unfold rng; (repeat' split) <;> omega) | grind)
        · rename_i hc31
          skip
          unfold w_X16_gatherIn_34
          try simp only [forall_eq, rII, rIJ, rIP, rJJ, rJI, rJP, rPP, rPI, rPJ, g1, g2, g3, g4, g5, g6, g7, g8, Nat.reduceEqDiff, Nat.reduceAdd, false_and, and_false, true_and, and_true, reduceIte, nZ0, nZ1, fun a k => (jτ10 a k).1, fun a k => (jτ10 a k).2, pτ10]
          split
          · rename_i hc36
            skip
            unfold w_X16_gatherIn_55
            try simp only [forall_eq, rII, rIJ, rIP, rJJ, rJI, rJP, rPP, rPI, rPJ, g1, g2, g3, g4, g5, g6, g7, g8, Nat.reduceEqDiff, Nat.reduceAdd, false_and, and_false, true_and, and_true, reduceIte, nZ0, nZ1, fun a k => (jτ10 a k).1, fun a k => (jτ10 a k).2, pτ10]
            refine ⟨by (first | omega | with_reducible assumption | (unfold rng; omega) | (unfold rng; (repeat' split) <;> omega) | grind), ?_⟩
            split
            · rename_i hc65
              skip
              unfold w_X16_gatherIn_158
              try simp only [forall_eq, rII, rIJ, rIP, rJJ, rJI, rJP, rPP, rPI, rPJ, g1, g2, g3, g4, g5, g6, g7, g8, Nat.reduceEqDiff, Nat.reduceAdd, false_and, and_false, true_and, and_true, reduceIte, nZ0, nZ1, fun a k => (jτ10 a k).1, fun a k => (jτ10 a k).2, pτ10]
              refine ⟨by (first | omega | with_reducible assumption | (unfold rng; omega) | (unfold rng; (repeat' split) <;> omega) | grind), ?_⟩
              refine ih10 _ _ ?_ ?_ ?_ ?_
              · exact rτ10
              · exact fτ10
              · refine ⟨?_, ?_⟩; exact (by first | exact pt9 | exact PtI.fr (jx := jx) (K := [82, 116]) (S := []) pt9 (by repeat (first | exact Fr.rf | assumption | refine Fr.aJ g ?_ (by decide) | refine Fr.aI g ?_ (by decide) | refine Fr.sI g ?_ (by decide) | refine Fr.sJ g ?_ (by decide))) (by decide) (by decide)); exact (by (first | omega | with_reducible assumption | (unfold rng; omega) | (unfold rng; (repeat' split) <;> omega) | grind))
              · (try simp only [rII, rIJ, rIP, rJJ, rJI, rJP, rPP, rPI, rPJ, g1, g2, g3, g4, g5, g6, g7, g8, Nat.reduceEqDiff, Nat.reduceAdd, false_and, and_false, true_and, and_true, reduceIte, nZ0, nZ1, fun a k => (jτ10 a k).1, fun a k => (jτ10 a k).2, pτ10]) <;> (first | omega | with_reducible assumption | (unfold rng; omega) | (unfold rng; (repeat' split) <;> omega) | grind)
            · rename_i hc65
              skip
              unfold w_X16_gatherIn_68
              try simp only [forall_eq, rII, rIJ, rIP, rJJ, rJI, rJP, rPP, rPI, rPJ, g1, g2, g3, g4, g5, g6, g7, g8, Nat.reduceEqDiff, Nat.reduceAdd, false_and, and_false, true_and, and_true, reduceIte, nZ0, nZ1, fun a k => (jτ10 a k).1, fun a k => (jτ10 a k).2, pτ10]
              have q3 := rσ.2.2.1 ja 12 (v1.toNat); simp only [rgJ] at q3
              have L71 : ∀ (fu71 : Nat) (τ71 : Sg) (v11 : Int), Rg ra jx rm τ71 → Fr ra jx rm [82, 115, 116] [117] σ τ71 → (PtI ra rm τ71 b A ∧ (0 ≤ v11 ∧ v11 ≤ (gI σ (jx ja 12) v1.toNat))) → (((gI σ (jx ja 12) v1.toNat) - v11).toNat) < fu71 → wl_X16_gatherIn_71 ra jx rm Q X fu71 τ71 v1 v7 v10 v11 := by
                intro fu71
                induction fu71 with
                | zero => intro τ71 _ _ _ _ h9; omega
                | succ fu71 ih71 =>
                  intro τ71 v11 rτ71 fτ71 hi71 hm71
                  unfold wl_X16_gatherIn_71
                  have jτ71 := fτ71.2.2.1
                  have pτ71 := fτ71.2.2.2
                  unfold w_X16_gatherIn_71
                  try simp only [forall_eq, rII, rIJ, rIP, rJJ, rJI, rJP, rPP, rPI, rPJ, g1, g2, g3, g4, g5, g6, g7, g8, Nat.reduceEqDiff, Nat.reduceAdd, false_and, and_false, true_and, and_true, reduceIte, nZ0, nZ1, fun a k => (jτ71 a k).1, fun a k => (jτ71 a k).2, pτ71]
                  obtain ⟨pt9, hi71⟩ := hi71
                  refine ⟨ja, by exact hj, hja, ?_⟩
                  refine ⟨by (first | omega | with_reducible assumption | (unfold rng; omega) | (unfold rng; (repeat' split) <;> omega) | grind), ?_⟩
                  split
                  · rename_i hc82
                    skip
                    unfold w_X16_gatherIn_148
                    try simp only [forall_eq, rII, rIJ, rIP, rJJ, rJI, rJP, rPP, rPI, rPJ, g1, g2, g3, g4, g5, g6, g7, g8, Nat.reduceEqDiff, Nat.reduceAdd, false_and, and_false, true_and, and_true, reduceIte, nZ0, nZ1, fun a k => (jτ71 a k).1, fun a k => (jτ71 a k).2, pτ71]
                    refine ⟨by (first | omega | with_reducible assumption | (unfold rng; omega) | (unfold rng; (repeat' split) <;> omega) | grind), ?_⟩
                    refine hQ _ _ ?_ ?_ ?_
                    · refine Rg.aJ g ?_ (by simp only [rlT]; first | with_reducible assumption | omega | exact Int64.toInt_le _ | (rw [Int64.toInt_ofInt_of_le (by omega) (by omega)]; omega) | grind); exact rτ71
                    · refine Fr.aJ g ?_ (by decide); exact fτ71
                    · refine ⟨?_, trivial⟩; first | exact pt9 | exact PtI.set (r := v10) pt9 (by omega) (by (try simp only [rII, rIJ, rIP, rJJ, rJI, rJP, rPP, rPI, rPJ, g1, g2, g3, g4, g5, g6, g7, g8, Nat.reduceEqDiff, Nat.reduceAdd, false_and, and_false, true_and, and_true, reduceIte, nZ0, nZ1, fun a k => (jτ71 a k).1, fun a k => (jτ71 a k).2, pτ71])) (by intro i; (try simp only [rII, rIJ, rIP, rJJ, rJI, rJP, rPP, rPI, rPJ, g1, g2, g3, g4, g5, g6, g7, g8, Nat.reduceEqDiff, Nat.reduceAdd, false_and, and_false, true_and, and_true, reduceIte, nZ0, nZ1, fun a k => (jτ71 a k).1, fun a k => (jτ71 a k).2, pτ71])) hv
                  · rename_i hc82
                    skip
                    unfold w_X16_gatherIn_85
                    try simp only [forall_eq, rII, rIJ, rIP, rJJ, rJI, rJP, rPP, rPI, rPJ, g1, g2, g3, g4, g5, g6, g7, g8, Nat.reduceEqDiff, Nat.reduceAdd, false_and, and_false, true_and, and_true, reduceIte, nZ0, nZ1, fun a k => (jτ71 a k).1, fun a k => (jτ71 a k).2, pτ71]
                    refine ⟨by (first | omega | with_reducible assumption | (unfold rng; omega) | (unfold rng; (repeat' split) <;> omega) | grind), ?_⟩
                    refine ⟨by (first | omega | with_reducible assumption | (unfold rng; omega) | (unfold rng; (repeat' split) <;> omega) | grind), ?_⟩
                    refine ⟨by (first | omega | with_reducible assumption | (unfold rng; omega) | (unfold rng; (repeat' split) <;> omega) | grind), ?_⟩
                    refine ⟨ja, by exact hj, hja, ?_⟩
                    refine ⟨by (first | omega | with_reducible assumption | (unfold rng; omega) | (unfold rng; (repeat' split) <;> omega) | grind), ?_⟩
                    refine ⟨by (first | omega | with_reducible assumption | (unfold rng; omega) | (unfold rng; (repeat' split) <;> omega) | grind), ?_⟩
                    refine ⟨by (first | omega | with_reducible assumption | (unfold rng; omega) | (unfold rng; (repeat' split) <;> omega) | grind), ?_⟩
                    refine ⟨by (first | omega | with_reducible assumption | (unfold rng; omega) | (unfold rng; (repeat' split) <;> omega) | grind), ?_⟩
                    refine ⟨by (first | omega | with_reducible assumption | (unfold rng; omega) | (unfold rng; (repeat' split) <;> omega) | grind), ?_⟩
                    refine ⟨by (first | omega | with_reducible assumption | (unfold rng; omega) | (unfold rng; (repeat' split) <;> omega) | grind), ?_⟩
                    refine ⟨by (first | omega | with_reducible assumption | (unfold rng; omega) | (unfold rng; (repeat' split) <;> omega) | grind), ?_⟩
                    refine ⟨by (first | omega | with_reducible assumption | (unfold rng; omega) | (unfold rng; (repeat' split) <;> omega) | grind), ?_⟩
                    refine ⟨by (first | omega | with_reducible assumption | (unfold rng; omega) | (unfold rng; (repeat' split) <;> omega) | grind), ?_⟩
                    have q4 := rσ.2.2.1 ja 14 (((8 * v1) + v11).toNat); simp only [rgJ] at q4
                    refine s_X16_gathered g rτ71 (fun r23 p5 => ?_)
                    try simp only [forall_eq, rII, rIJ, rIP, rJJ, rJI, rJP, rPP, rPI, rPJ, g1, g2, g3, g4, g5, g6, g7, g8, Nat.reduceEqDiff, Nat.reduceAdd, false_and, and_false, true_and, and_true, reduceIte, nZ0, nZ1, fun a k => (jτ71 a k).1, fun a k => (jτ71 a k).2, pτ71]
                    refine ⟨by (first | omega | with_reducible assumption | (unfold rng; omega) | (unfold rng; (repeat' split) <;> omega) | grind), ?_⟩
                    refine ⟨by (first | omega | with_reducible assumption | (unfold rng; omega) | (unfold rng; (repeat' split) <;> omega) | grind), ?_⟩
                    refine ih71 _ _ ?_ ?_ ?_ ?_
                    · refine Rg.aJ g ?_ (by simp only [rlT]; first | with_reducible assumption | omega | exact Int64.toInt_le _ | (rw [Int64.toInt_ofInt_of_le (by omega) (by omega)]; omega) | grind); exact rτ71
                    · refine Fr.aJ g ?_ (by decide); exact fτ71
                    · refine ⟨?_, ?_⟩; exact (by first | exact pt9 | exact PtI.fr (jx := jx) (K := [82, 116]) (S := []) pt9 (by repeat (first | exact Fr.rf | assumption | refine Fr.aJ g ?_ (by decide) | refine Fr.aI g ?_ (by decide) | refine Fr.sI g ?_ (by decide) | refine Fr.sJ g ?_ (by decide))) (by decide) (by decide)); exact (by (first | omega | with_reducible assumption | (unfold rng; omega) | (unfold rng; (repeat' split) <;> omega) | grind))
                    · (try simp only [rII, rIJ, rIP, rJJ, rJI, rJP, rPP, rPI, rPJ, g1, g2, g3, g4, g5, g6, g7, g8, Nat.reduceEqDiff, Nat.reduceAdd, false_and, and_false, true_and, and_true, reduceIte, nZ0, nZ1, fun a k => (jτ71 a k).1, fun a k => (jτ71 a k).2, pτ71]) <;> (first | omega | with_reducible assumption | (unfold rng; omega) | (unfold rng; (repeat' split) <;> omega) | grind)
              refine ⟨_, L71 _ _ _ ?_ ?_ ?_ (Nat.lt_succ_self _)⟩
              · exact rτ10
              · exact fτ10
              · refine ⟨?_, ?_⟩; exact (by first | exact pt9 | exact PtI.fr (jx := jx) (K := [82, 116]) (S := []) pt9 (by repeat (first | exact Fr.rf | assumption | refine Fr.aJ g ?_ (by decide) | refine Fr.aI g ?_ (by decide) | refine Fr.sI g ?_ (by decide) | refine Fr.sJ g ?_ (by decide))) (by decide) (by decide)); exact (by (first | omega | with_reducible assumption | (unfold rng; omega) | (unfold rng; (repeat' split) <;> omega) | grind))
          · rename_i hc36
            skip
            unfold w_X16_gatherIn_39
            try simp only [forall_eq, rII, rIJ, rIP, rJJ, rJI, rJP, rPP, rPI, rPJ, g1, g2, g3, g4, g5, g6, g7, g8, Nat.reduceEqDiff, Nat.reduceAdd, false_and, and_false, true_and, and_true, reduceIte, nZ0, nZ1, fun a k => (jτ10 a k).1, fun a k => (jτ10 a k).2, pτ10]
            refine ⟨by (first | omega | with_reducible assumption | (unfold rng; omega) | (unfold rng; (repeat' split) <;> omega) | grind), ?_⟩
            split
            · rename_i hc49
              skip
              unfold w_X16_gatherIn_158
              try simp only [forall_eq, rII, rIJ, rIP, rJJ, rJI, rJP, rPP, rPI, rPJ, g1, g2, g3, g4, g5, g6, g7, g8, Nat.reduceEqDiff, Nat.reduceAdd, false_and, and_false, true_and, and_true, reduceIte, nZ0, nZ1, fun a k => (jτ10 a k).1, fun a k => (jτ10 a k).2, pτ10]
              refine ⟨by (first | omega | with_reducible assumption | (unfold rng; omega) | (unfold rng; (repeat' split) <;> omega) | grind), ?_⟩
              refine ih10 _ _ ?_ ?_ ?_ ?_
              · exact rτ10
              · exact fτ10
              · refine ⟨?_, ?_⟩; exact (by first | exact pt9 | exact PtI.fr (jx := jx) (K := [82, 116]) (S := []) pt9 (by repeat (first | exact Fr.rf | assumption | refine Fr.aJ g ?_ (by decide) | refine Fr.aI g ?_ (by decide) | refine Fr.sI g ?_ (by decide) | refine Fr.sJ g ?_ (by decide))) (by decide) (by decide)); exact (by (first | omega | with_reducible assumption | (unfold rng; omega) | (unfold rng; (repeat' split) <;> omega) | grind))
              · (try simp only [rII, rIJ, rIP, rJJ, rJI, rJP, rPP, rPI, rPJ, g1, g2, g3, g4, g5, g6, g7, g8, Nat.reduceEqDiff, Nat.reduceAdd, false_and, and_false, true_and, and_true, reduceIte, nZ0, nZ1, fun a k => (jτ10 a k).1, fun a k => (jτ10 a k).2, pτ10]) <;> (first | omega | with_reducible assumption | (unfold rng; omega) | (unfold rng; (repeat' split) <;> omega) | grind)
            · rename_i hc49
              skip
              unfold w_X16_gatherIn_52
              try simp only [forall_eq, rII, rIJ, rIP, rJJ, rJI, rJP, rPP, rPI, rPJ, g1, g2, g3, g4, g5, g6, g7, g8, Nat.reduceEqDiff, Nat.reduceAdd, false_and, and_false, true_and, and_true, reduceIte, nZ0, nZ1, fun a k => (jτ10 a k).1, fun a k => (jτ10 a k).2, pτ10]
              unfold w_X16_gatherIn_68
              try simp only [forall_eq, rII, rIJ, rIP, rJJ, rJI, rJP, rPP, rPI, rPJ, g1, g2, g3, g4, g5, g6, g7, g8, Nat.reduceEqDiff, Nat.reduceAdd, false_and, and_false, true_and, and_true, reduceIte, nZ0, nZ1, fun a k => (jτ10 a k).1, fun a k => (jτ10 a k).2, pτ10]
              have q6 := rσ.2.2.1 ja 12 (v1.toNat); simp only [rgJ] at q6
              have L71 : ∀ (fu71 : Nat) (τ71 : Sg) (v11 : Int), Rg ra jx rm τ71 → Fr ra jx rm [82, 115, 116] [117] σ τ71 → (PtI ra rm τ71 b A ∧ (0 ≤ v11 ∧ v11 ≤ (gI σ (jx ja 12) v1.toNat))) → (((gI σ (jx ja 12) v1.toNat) - v11).toNat) < fu71 → wl_X16_gatherIn_71 ra jx rm Q X fu71 τ71 v1 v7 v10 v11 := by
                intro fu71
                induction fu71 with
                | zero => intro τ71 _ _ _ _ h9; omega
                | succ fu71 ih71 =>
                  intro τ71 v11 rτ71 fτ71 hi71 hm71
                  unfold wl_X16_gatherIn_71
                  have jτ71 := fτ71.2.2.1
                  have pτ71 := fτ71.2.2.2
                  unfold w_X16_gatherIn_71
                  try simp only [forall_eq, rII, rIJ, rIP, rJJ, rJI, rJP, rPP, rPI, rPJ, g1, g2, g3, g4, g5, g6, g7, g8, Nat.reduceEqDiff, Nat.reduceAdd, false_and, and_false, true_and, and_true, reduceIte, nZ0, nZ1, fun a k => (jτ71 a k).1, fun a k => (jτ71 a k).2, pτ71]
                  obtain ⟨pt9, hi71⟩ := hi71
                  refine ⟨ja, by exact hj, hja, ?_⟩
                  refine ⟨by (first | omega | with_reducible assumption | (unfold rng; omega) | (unfold rng; (repeat' split) <;> omega) | grind), ?_⟩
                  split
                  · rename_i hc82
                    skip
                    unfold w_X16_gatherIn_148
                    try simp only [forall_eq, rII, rIJ, rIP, rJJ, rJI, rJP, rPP, rPI, rPJ, g1, g2, g3, g4, g5, g6, g7, g8, Nat.reduceEqDiff, Nat.reduceAdd, false_and, and_false, true_and, and_true, reduceIte, nZ0, nZ1, fun a k => (jτ71 a k).1, fun a k => (jτ71 a k).2, pτ71]
                    refine ⟨by (first | omega | with_reducible assumption | (unfold rng; omega) | (unfold rng; (repeat' split) <;> omega) | grind), ?_⟩
                    refine hQ _ _ ?_ ?_ ?_
                    · refine Rg.aJ g ?_ (by simp only [rlT]; first | with_reducible assumption | omega | exact Int64.toInt_le _ | (rw [Int64.toInt_ofInt_of_le (by omega) (by omega)]; omega) | grind); exact rτ71
                    · refine Fr.aJ g ?_ (by decide); exact fτ71
                    · refine ⟨?_, trivial⟩; first | exact pt9 | exact PtI.set (r := v10) pt9 (by omega) (by (try simp only [rII, rIJ, rIP, rJJ, rJI, rJP, rPP, rPI, rPJ, g1, g2, g3, g4, g5, g6, g7, g8, Nat.reduceEqDiff, Nat.reduceAdd, false_and, and_false, true_and, and_true, reduceIte, nZ0, nZ1, fun a k => (jτ71 a k).1, fun a k => (jτ71 a k).2, pτ71])) (by intro i; (try simp only [rII, rIJ, rIP, rJJ, rJI, rJP, rPP, rPI, rPJ, g1, g2, g3, g4, g5, g6, g7, g8, Nat.reduceEqDiff, Nat.reduceAdd, false_and, and_false, true_and, and_true, reduceIte, nZ0, nZ1, fun a k => (jτ71 a k).1, fun a k => (jτ71 a k).2, pτ71])) hv
                  · rename_i hc82
                    skip
                    unfold w_X16_gatherIn_85
                    try simp only [forall_eq, rII, rIJ, rIP, rJJ, rJI, rJP, rPP, rPI, rPJ, g1, g2, g3, g4, g5, g6, g7, g8, Nat.reduceEqDiff, Nat.reduceAdd, false_and, and_false, true_and, and_true, reduceIte, nZ0, nZ1, fun a k => (jτ71 a k).1, fun a k => (jτ71 a k).2, pτ71]
                    refine ⟨by (first | omega | with_reducible assumption | (unfold rng; omega) | (unfold rng; (repeat' split) <;> omega) | grind), ?_⟩
                    refine ⟨by (first | omega | with_reducible assumption | (unfold rng; omega) | (unfold rng; (repeat' split) <;> omega) | grind), ?_⟩
                    refine ⟨by (first | omega | with_reducible assumption | (unfold rng; omega) | (unfold rng; (repeat' split) <;> omega) | grind), ?_⟩
                    refine ⟨ja, by exact hj, hja, ?_⟩
                    refine ⟨by (first | omega | with_reducible assumption | (unfold rng; omega) | (unfold rng; (repeat' split) <;> omega) | grind), ?_⟩
                    refine ⟨by (first | omega | with_reducible assumption | (unfold rng; omega) | (unfold rng; (repeat' split) <;> omega) | grind), ?_⟩
                    refine ⟨by (first | omega | with_reducible assumption | (unfold rng; omega) | (unfold rng; (repeat' split) <;> omega) | grind), ?_⟩
                    refine ⟨by (first | omega | with_reducible assumption | (unfold rng; omega) | (unfold rng; (repeat' split) <;> omega) | grind), ?_⟩
                    refine ⟨by (first | omega | with_reducible assumption | (unfold rng; omega) | (unfold rng; (repeat' split) <;> omega) | grind), ?_⟩
                    refine ⟨by (first | omega | with_reducible assumption | (unfold rng; omega) | (unfold rng; (repeat' split) <;> omega) | grind), ?_⟩
                    refine ⟨by (first | omega | with_reducible assumption | (unfold rng; omega) | (unfold rng; (repeat' split) <;> omega) | grind), ?_⟩
                    refine ⟨by (first | omega | with_reducible assumption | (unfold rng; omega) | (unfold rng; (repeat' split) <;> omega) | grind), ?_⟩
                    refine ⟨by (first | omega | with_reducible assumption | (unfold rng; omega) | (unfold rng; (repeat' split) <;> omega) | grind), ?_⟩
                    have q7 := rσ.2.2.1 ja 14 (((8 * v1) + v11).toNat); simp only [rgJ] at q7
                    refine s_X16_gathered g rτ71 (fun r29 p8 => ?_)
                    try simp only [forall_eq, rII, rIJ, rIP, rJJ, rJI, rJP, rPP, rPI, rPJ, g1, g2, g3, g4, g5, g6, g7, g8, Nat.reduceEqDiff, Nat.reduceAdd, false_and, and_false, true_and, and_true, reduceIte, nZ0, nZ1, fun a k => (jτ71 a k).1, fun a k => (jτ71 a k).2, pτ71]
                    refine ⟨by (first | omega | with_reducible assumption | (unfold rng; omega) | (unfold rng; (repeat' split) <;> omega) | grind), ?_⟩
                    refine ⟨by (first | omega | with_reducible assumption | (unfold rng; omega) | (unfold rng; (repeat' split) <;> omega) | grind), ?_⟩
                    refine ih71 _ _ ?_ ?_ ?_ ?_
                    · refine Rg.aJ g ?_ (by simp only [rlT]; first | with_reducible assumption | omega | exact Int64.toInt_le _ | (rw [Int64.toInt_ofInt_of_le (by omega) (by omega)]; omega) | grind); exact rτ71
                    · refine Fr.aJ g ?_ (by decide); exact fτ71
                    · refine ⟨?_, ?_⟩; exact (by first | exact pt9 | exact PtI.fr (jx := jx) (K := [82, 116]) (S := []) pt9 (by repeat (first | exact Fr.rf | assumption | refine Fr.aJ g ?_ (by decide) | refine Fr.aI g ?_ (by decide) | refine Fr.sI g ?_ (by decide) | refine Fr.sJ g ?_ (by decide))) (by decide) (by decide)); exact (by (first | omega | with_reducible assumption | (unfold rng; omega) | (unfold rng; (repeat' split) <;> omega) | grind))
                    · (try simp only [rII, rIJ, rIP, rJJ, rJI, rJP, rPP, rPI, rPJ, g1, g2, g3, g4, g5, g6, g7, g8, Nat.reduceEqDiff, Nat.reduceAdd, false_and, and_false, true_and, and_true, reduceIte, nZ0, nZ1, fun a k => (jτ71 a k).1, fun a k => (jτ71 a k).2, pτ71]) <;> (first | omega | with_reducible assumption | (unfold rng; omega) | (unfold rng; (repeat' split) <;> omega) | grind)
              refine ⟨_, L71 _ _ _ ?_ ?_ ?_ (Nat.lt_succ_self _)⟩
              · exact rτ10
              · exact fτ10
              · refine ⟨?_, ?_⟩; exact (by first | exact pt9 | exact PtI.fr (jx := jx) (K := [82, 116]) (S := []) pt9 (by repeat (first | exact Fr.rf | assumption | refine Fr.aJ g ?_ (by decide) | refine Fr.aI g ?_ (by decide) | refine Fr.sI g ?_ (by decide) | refine Fr.sJ g ?_ (by decide))) (by decide) (by decide)); exact (by (first | omega | with_reducible assumption | (unfold rng; omega) | (unfold rng; (repeat' split) <;> omega) | grind))
  refine ⟨_, L10 _ _ _ ?_ ?_ ?_ (Nat.lt_succ_self _)⟩
  · refine Rg.aJ g ?_ (by simp only [rlT]; first | with_reducible assumption | omega | exact Int64.toInt_le _ | (rw [Int64.toInt_ofInt_of_le (by omega) (by omega)]; omega) | grind); exact rσ
  · refine Fr.aJ g ?_ (by decide); exact fσ
  · refine ⟨?_, ?_⟩; exact (by first | exact pt9 | exact PtI.fr (jx := jx) (K := [82, 116]) (S := []) pt9 (by repeat (first | exact Fr.rf | assumption | refine Fr.aJ g ?_ (by decide) | refine Fr.aI g ?_ (by decide) | refine Fr.sI g ?_ (by decide) | refine Fr.sJ g ?_ (by decide))) (by decide) (by decide)); exact (by (first | omega | with_reducible assumption | (unfold rng; omega) | (unfold rng; (repeat' split) <;> omega) | grind))
set_option maxHeartbeats 4000000 in
theorem s2_X16_passFold {ra : Nat → Nat} {jx : Nat → Nat → Nat} {rm : Nat} {ja : Nat} {b : Int} {A : Int} (g : Geo ra jx rm) {σ : Sg} {v1 : Int} {v2 : Int} (rσ : Rg ra jx rm σ) (hj : gP σ rm 17 = some ja) (hja : ja = ra 15 ∨ ja = ra 16) (h1 : 0 ≤ v1 ∧ v1 < 16) (h2 : 0 ≤ v2 ∧ v2 < 16) (hvs : ∀ k, 0 ≤ k → k < gI σ (jx ja 12) v1.toNat → gI σ (jx ja 14) (8 * v1 + k).toNat ≠ 0 → PO jx ja σ (gI σ (jx ja 13) (8 * v1 + k).toNat)) (hva : gI σ (jx ja 12) v1.toNat ≤ 7) (hpt : PtI ra rm σ b A) (hA : 1000000 ≤ A ∧ A ≤ 2000000) (hin_v2 : gI σ (ra 118) (v2 + 1).toNat ≤ b) (hbq : b = gI σ rm 117) (h8 : 1 ≤ (gJ σ (jx ja 8) v1.toNat).toInt ∧ (gJ σ (jx ja 8) v1.toNat).toInt ≤ 1000) (h9 : gI σ (jx ja 2) v1.toNat ≠ 5 → 1 ≤ (gJ σ (jx ja 9) v1.toNat).toInt ∧ (gJ σ (jx ja 9) v1.toNat).toInt ≤ 1000) {Q : Sg → Unit → Prop} {X : Sg → String → Prop} (hQ : ∀ (σ' : Sg) (r : Unit), Rg ra jx rm σ' → Fr ra jx rm [20, 81, 82, 115, 116, 119] [21, 117] σ σ' → (PtI ra rm σ' b A ∧ (True)) → Q σ' r) (hX : ∀ (σ' : Sg) (E : String), Rg ra jx rm σ' → Fr ra jx rm [20, 81, 82, 115, 116, 119] [21, 117] σ σ' → (E = "StreamHouseModel$Broken") → X σ' E) : wp_X16_passFold ra jx rm v1 v2 σ Q X := by
  obtain ⟨g1, g2, g3, g4, g5, g6, g7, g8⟩ := id g
  have fσ : Fr ra jx rm [20, 81, 82, 115, 116, 119] [21, 117] σ σ := Fr.rf
  have pt9 := hpt
  unfold wp_X16_passFold
  unfold w_X16_passFold_0
  try simp only [forall_eq, rII, rIJ, rIP, rJJ, rJI, rJP, rPP, rPI, rPJ, g1, g2, g3, g4, g5, g6, g7, g8, Nat.reduceEqDiff, Nat.reduceAdd, false_and, and_false, true_and, and_true, reduceIte, nZ0, nZ1]
  refine ⟨ja, by exact hj, hja, ?_⟩
  refine ⟨by (first | omega | with_reducible assumption | (unfold rng; omega) | (unfold rng; (repeat' split) <;> omega)), ?_⟩
  have q1 := rσ.2.2.1 ja 2 (v1.toNat); simp only [rgJ] at q1
  split
  · rename_i hc15
    skip
    unfold w_X16_passFold_22
    try simp only [forall_eq, rII, rIJ, rIP, rJJ, rJI, rJP, rPP, rPI, rPJ, g1, g2, g3, g4, g5, g6, g7, g8, Nat.reduceEqDiff, Nat.reduceAdd, false_and, and_false, true_and, and_true, reduceIte, nZ0, nZ1]
    unfold w_X16_passFold_23
    try simp only [forall_eq, rII, rIJ, rIP, rJJ, rJI, rJP, rPP, rPI, rPJ, g1, g2, g3, g4, g5, g6, g7, g8, Nat.reduceEqDiff, Nat.reduceAdd, false_and, and_false, true_and, and_true, reduceIte, nZ0, nZ1]
    refine s2_X16_sort g rσ (by first | exact hj | (rw [fσ.2.2.2]; exact hj)) hja (by (try simp only [rII, rIJ, rIP, rJJ, rJI, rJP, rPP, rPI, rPJ, g1, g2, g3, g4, g5, g6, g7, g8, Nat.reduceEqDiff, Nat.reduceAdd, false_and, and_false, true_and, and_true, reduceIte, nZ0, nZ1]) <;> (first | omega | with_reducible assumption | (unfold rng; omega) | (unfold rng; (repeat' split) <;> omega))) (fun σ40 r41 rσ40 fc p2 => ?_)
    have fσ40 : Fr ra jx rm [20, 81, 82, 115, 116, 119] [21, 117] σ σ40 := Fr.tr fσ (Fr.mor (fc) (by decide) (by decide))
    have pt9 := PtI.fr pt9 fc (by decide) (by decide)
    have so9 : SoI ra σ40 _ _ _ := p2.2
    have sn9 := p2.1
    have eσ40_118 := fσ40.1 118 (by decide)
    have jσ40 := fσ40.2.2.1
    have pσ40 := fσ40.2.2.2
    try simp only [forall_eq, rII, rIJ, rIP, rJJ, rJI, rJP, rPP, rPI, rPJ, g1, g2, g3, g4, g5, g6, g7, g8, Nat.reduceEqDiff, Nat.reduceAdd, false_and, and_false, true_and, and_true, reduceIte, nZ0, nZ1, eσ40_118.1, eσ40_118.2, fun a k => (jσ40 a k).1, fun a k => (jσ40 a k).2, pσ40]
    have q3 := rσ.1 118 (v2.toNat); simp only [rgT] at q3
    have q4 := rσ.1 118 ((v2 + 1).toNat); simp only [rgT] at q4
    have q5 := rσ.2.1 117; simp only [rgS] at q5
    have L35 : ∀ (fu35 : Nat) (τ35 : Sg) (v6 : Int), Rg ra jx rm τ35 → Fr ra jx rm [20, 81, 82, 115, 116, 119] [21, 117] σ τ35 → (PtI ra rm τ35 b A ∧ SoI ra τ35 r41 (gI σ (ra 118) v2.toNat) (gI σ (ra 118) (v2 + 1).toNat) ∧ (0 ≤ v6 ∧ v6 ≤ r41 ∧ (0 = 0 ∨ 0 = 1))) → ((r41 - v6).toNat) < fu35 → wl_X16_passFold_35 ra jx rm Q X fu35 τ35 v1 (gI σ rm 117) 0 r41 v6 := by
      intro fu35
      induction fu35 with
      | zero => intro τ35 _ _ _ _ h9; omega
      | succ fu35 ih35 =>
        intro τ35 v6 rτ35 fτ35 hi35 hm35
        unfold wl_X16_passFold_35
        have eτ35_118 := fτ35.1 118 (by decide)
        have jτ35 := fτ35.2.2.1
        have pτ35 := fτ35.2.2.2
        unfold w_X16_passFold_35
        try simp only [forall_eq, rII, rIJ, rIP, rJJ, rJI, rJP, rPP, rPI, rPJ, g1, g2, g3, g4, g5, g6, g7, g8, Nat.reduceEqDiff, Nat.reduceAdd, false_and, and_false, true_and, and_true, reduceIte, nZ0, nZ1, eτ35_118.1, eτ35_118.2, fun a k => (jτ35 a k).1, fun a k => (jτ35 a k).2, pτ35]
        obtain ⟨pt9, so9, hi35⟩ := hi35
        split
        · rename_i hc39
          skip
          unfold w_X16_passFold_226
          try simp only [forall_eq, rII, rIJ, rIP, rJJ, rJI, rJP, rPP, rPI, rPJ, g1, g2, g3, g4, g5, g6, g7, g8, Nat.reduceEqDiff, Nat.reduceAdd, false_and, and_false, true_and, and_true, reduceIte, nZ0, nZ1, eτ35_118.1, eτ35_118.2, fun a k => (jτ35 a k).1, fun a k => (jτ35 a k).2, pτ35]
          refine hQ _ _ ?_ ?_ ?_
          · exact rτ35
          · exact fτ35
          · refine ⟨(by first | exact pt9), ?_⟩; first | trivial | (first | omega | with_reducible assumption | (unfold rng; omega) | (unfold rng; (repeat' split) <;> omega))
        · rename_i hc39
          skip
          unfold w_X16_passFold_42
          try simp only [forall_eq, rII, rIJ, rIP, rJJ, rJI, rJP, rPP, rPI, rPJ, g1, g2, g3, g4, g5, g6, g7, g8, Nat.reduceEqDiff, Nat.reduceAdd, false_and, and_false, true_and, and_true, reduceIte, nZ0, nZ1, eτ35_118.1, eτ35_118.2, fun a k => (jτ35 a k).1, fun a k => (jτ35 a k).2, pτ35]
          have sm9 := so9 v6.toNat (by omega)
          refine ⟨by (first | omega | with_reducible assumption | (unfold rng; omega) | (unfold rng; (repeat' split) <;> omega)), ?_⟩
          have q6 := rτ35.1 119 (v6.toNat); simp only [rgT] at q6
          refine s_X16_load g rτ35 (by (try simp only [rII, rIJ, rIP, rJJ, rJI, rJP, rPP, rPI, rPJ, g1, g2, g3, g4, g5, g6, g7, g8, Nat.reduceEqDiff, Nat.reduceAdd, false_and, and_false, true_and, and_true, reduceIte, nZ0, nZ1, eτ35_118.1, eτ35_118.2, fun a k => (jτ35 a k).1, fun a k => (jτ35 a k).2, pτ35]) <;> (first | omega | with_reducible assumption | (unfold rng; omega) | (unfold rng; (repeat' split) <;> omega))) (fun σ42 _ rσ42 fc p7 => ?_)
          have fσ42 : Fr ra jx rm [20, 81, 82, 115, 116, 119] [21, 117] σ σ42 := Fr.tr fτ35 (Fr.mor (fc) (by decide) (by decide))
          have pt9 := PtI.fr pt9 fc (by decide) (by decide)
          have so9 := SoI.fr so9 fc (by decide)
          have eσ42_118 := fσ42.1 118 (by decide)
          have jσ42 := fσ42.2.2.1
          have pσ42 := fσ42.2.2.2
          try simp only [forall_eq, rII, rIJ, rIP, rJJ, rJI, rJP, rPP, rPI, rPJ, g1, g2, g3, g4, g5, g6, g7, g8, Nat.reduceEqDiff, Nat.reduceAdd, false_and, and_false, true_and, and_true, reduceIte, nZ0, nZ1, eσ42_118.1, eσ42_118.2, fun a k => (jσ42 a k).1, fun a k => (jσ42 a k).2, pσ42]
          refine ⟨by (first | omega | with_reducible assumption | (unfold rng; omega) | (unfold rng; (repeat' split) <;> omega)), ?_⟩
          refine s_X16_isWeighed g rσ42 (by first | exact hj | (rw [fσ42.2.2.2]; exact hj)) hja (by (try simp only [rII, rIJ, rIP, rJJ, rJI, rJP, rPP, rPI, rPJ, g1, g2, g3, g4, g5, g6, g7, g8, Nat.reduceEqDiff, Nat.reduceAdd, false_and, and_false, true_and, and_true, reduceIte, nZ0, nZ1, eσ42_118.1, eσ42_118.2, fun a k => (jσ42 a k).1, fun a k => (jσ42 a k).2, pσ42]) <;> (first | omega | with_reducible assumption | (unfold rng; omega) | (unfold rng; (repeat' split) <;> omega))) (by (try simp only [rII, rIJ, rIP, rJJ, rJI, rJP, rPP, rPI, rPJ, g1, g2, g3, g4, g5, g6, g7, g8, Nat.reduceEqDiff, Nat.reduceAdd, false_and, and_false, true_and, and_true, reduceIte, nZ0, nZ1, eσ42_118.1, eσ42_118.2, fun a k => (jσ42 a k).1, fun a k => (jσ42 a k).2, pσ42]) <;> exact fun k h0 h9 h8 => PO.fr (hvs k h0 h9 h8) hja fσ42 (by decide)) (fun σ43 r44 rσ43 fc p8 => ?_)
          have fσ43 : Fr ra jx rm [20, 81, 82, 115, 116, 119] [21, 117] σ σ43 := Fr.tr fσ42 (Fr.mor (fc) (by decide) (by decide))
          have tm9 := PtI.lo0 (i := gI τ35 (ra 119) v6.toNat) pt9 (by omega) (by omega)
          have pt9 := PtI.fr pt9 fc (by decide) (by decide)
          have so9 := SoI.fr so9 fc (by decide)
          have eσ43_118 := fσ43.1 118 (by decide)
          have jσ43 := fσ43.2.2.1
          have pσ43 := fσ43.2.2.2
          try simp only [forall_eq, rII, rIJ, rIP, rJJ, rJI, rJP, rPP, rPI, rPJ, g1, g2, g3, g4, g5, g6, g7, g8, Nat.reduceEqDiff, Nat.reduceAdd, false_and, and_false, true_and, and_true, reduceIte, nZ0, nZ1, eσ43_118.1, eσ43_118.2, fun a k => (jσ43 a k).1, fun a k => (jσ43 a k).2, pσ43]
          split
          · rename_i hc73
            skip
            unfold w_X16_passFold_79
            try simp only [forall_eq, rII, rIJ, rIP, rJJ, rJI, rJP, rPP, rPI, rPJ, g1, g2, g3, g4, g5, g6, g7, g8, Nat.reduceEqDiff, Nat.reduceAdd, false_and, and_false, true_and, and_true, reduceIte, nZ0, nZ1, eσ43_118.1, eσ43_118.2, fun a k => (jσ43 a k).1, fun a k => (jσ43 a k).2, pσ43]
            refine ⟨ja, by exact hj, hja, ?_⟩
            refine ⟨by (first | omega | with_reducible assumption | (unfold rng; omega) | (unfold rng; (repeat' split) <;> omega)), ?_⟩
            have q9 := rσ.2.2.1 ja 10 (v1.toNat); simp only [rgJ] at q9
            refine ⟨by (first | omega | with_reducible assumption | (unfold rng; omega) | (unfold rng; (repeat' split) <;> omega)), ?_⟩
            try rw [if_pos (by decide)]
            unfold w_X16_passFold_128
            try simp only [forall_eq, rII, rIJ, rIP, rJJ, rJI, rJP, rPP, rPI, rPJ, g1, g2, g3, g4, g5, g6, g7, g8, Nat.reduceEqDiff, Nat.reduceAdd, false_and, and_false, true_and, and_true, reduceIte, nZ0, nZ1, eσ43_118.1, eσ43_118.2, fun a k => (jσ43 a k).1, fun a k => (jσ43 a k).2, pσ43]
            have h9b := h9 (by assumption)
            have nz9 : (gJ σ (jx ja 9) v1.toNat) ≠ 0 := fun q => by have := h9b.1; rw [q] at this; exact absurd this (by decide)
            refine ⟨ja, by exact hj, hja, ?_⟩
            refine ⟨by (first | omega | with_reducible assumption | (unfold rng; omega) | (unfold rng; (repeat' split) <;> omega)), ?_⟩
            refine ⟨ja, by exact hj, hja, ?_⟩
            refine ⟨by (first | omega | with_reducible assumption | (unfold rng; omega) | (unfold rng; (repeat' split) <;> omega)), ?_⟩
            refine s_X16_down g rσ43 (by (try simp only [rII, rIJ, rIP, rJJ, rJI, rJP, rPP, rPI, rPJ, g1, g2, g3, g4, g5, g6, g7, g8, Nat.reduceEqDiff, Nat.reduceAdd, false_and, and_false, true_and, and_true, reduceIte, nZ0, nZ1, eσ43_118.1, eσ43_118.2, fun a k => (jσ43 a k).1, fun a k => (jσ43 a k).2, pσ43]) <;> (first | omega | with_reducible assumption | (unfold rng; omega) | (unfold rng; (repeat' split) <;> omega))) (fun r49 p10 => ?_)
            try simp only [forall_eq, rII, rIJ, rIP, rJJ, rJI, rJP, rPP, rPI, rPJ, g1, g2, g3, g4, g5, g6, g7, g8, Nat.reduceEqDiff, Nat.reduceAdd, false_and, and_false, true_and, and_true, reduceIte, nZ0, nZ1, eσ43_118.1, eσ43_118.2, fun a k => (jσ43 a k).1, fun a k => (jσ43 a k).2, pσ43]
            have k156 := span_k tm9 hA.2 h8 h9b
            rw [← p10] at k156
            have L156 : ∀ (fu156 : Nat) (τ156 : Sg) (v12 : Int64), Rg ra jx rm τ156 → Fr ra jx rm [20, 81, 82, 115, 116, 119] [21, 117] σ τ156 → (PtI ra rm τ156 b A ∧ SoI ra τ156 r41 (gI σ (ra 118) v2.toNat) (gI σ (ra 118) (v2 + 1).toNat) ∧ (((gJ σ42 (ra 115) (gI τ35 (ra 119) v6.toNat).toNat).toInt - (gJ σ (jx ja 8) v1.toNat).toInt) / (gJ σ (jx ja 9) v1.toNat).toInt + 1 ≤ v12.toInt)) → (((dnJ (gJ σ42 (ra 115) (gI τ35 (ra 119) v6.toNat).toNat) (gJ σ (jx ja 9) v1.toNat)).toInt - v12.toInt + 1).toNat) < fu156 → wl_X16_passFold_156 ra jx rm (wl_X16_passFold_35 ra jx rm Q X fu35) Q X fu156 τ156 v1 (gI σ rm 117) 0 r41 v6 (gJ σ42 (ra 115) (gI τ35 (ra 119) v6.toNat).toNat) (gJ σ43 (ra 81) (gI σ (jx ja 10) v1.toNat).toNat) v12 := by
              intro fu156
              induction fu156 with
              | zero => intro τ156 _ _ _ _ h9; omega
              | succ fu156 ih156 =>
                intro τ156 v12 rτ156 fτ156 hi156 hm156
                unfold wl_X16_passFold_156
                have eτ156_118 := fτ156.1 118 (by decide)
                have jτ156 := fτ156.2.2.1
                have pτ156 := fτ156.2.2.2
                unfold w_X16_passFold_156
                try simp only [forall_eq, rII, rIJ, rIP, rJJ, rJI, rJP, rPP, rPI, rPJ, g1, g2, g3, g4, g5, g6, g7, g8, Nat.reduceEqDiff, Nat.reduceAdd, false_and, and_false, true_and, and_true, reduceIte, nZ0, nZ1, eτ156_118.1, eτ156_118.2, fun a k => (jτ156 a k).1, fun a k => (jτ156 a k).2, pτ156]
                obtain ⟨pt9, so9, hi156⟩ := hi156
                refine ⟨ja, by exact hj, hja, ?_⟩
                refine ⟨by (first | omega | with_reducible assumption | (unfold rng; omega) | (unfold rng; (repeat' split) <;> omega)), ?_⟩
                refine s_X16_down g rτ156 (by (try simp only [rII, rIJ, rIP, rJJ, rJI, rJP, rPP, rPI, rPJ, g1, g2, g3, g4, g5, g6, g7, g8, Nat.reduceEqDiff, Nat.reduceAdd, false_and, and_false, true_and, and_true, reduceIte, nZ0, nZ1, eτ156_118.1, eτ156_118.2, fun a k => (jτ156 a k).1, fun a k => (jτ156 a k).2, pτ156]) <;> (first | omega | with_reducible assumption | (unfold rng; omega) | (unfold rng; (repeat' split) <;> omega))) (fun r52 p11 => ?_)
                try simp only [forall_eq, rII, rIJ, rIP, rJJ, rJI, rJP, rPP, rPI, rPJ, g1, g2, g3, g4, g5, g6, g7, g8, Nat.reduceEqDiff, Nat.reduceAdd, false_and, and_false, true_and, and_true, reduceIte, nZ0, nZ1, eτ156_118.1, eτ156_118.2, fun a k => (jτ156 a k).1, fun a k => (jτ156 a k).2, pτ156]
                have dt9 := time_dn tm9 hA.2 h9b
                have dr9 := congrArg Int64.toInt p11
                split
                · rename_i hc173
                  skip
                  unfold w_X16_passFold_220
                  try simp only [forall_eq, rII, rIJ, rIP, rJJ, rJI, rJP, rPP, rPI, rPJ, g1, g2, g3, g4, g5, g6, g7, g8, Nat.reduceEqDiff, Nat.reduceAdd, false_and, and_false, true_and, and_true, reduceIte, nZ0, nZ1, eτ156_118.1, eτ156_118.2, fun a k => (jτ156 a k).1, fun a k => (jτ156 a k).2, pτ156]
                  refine ⟨by (first | omega | with_reducible assumption | (unfold rng; omega) | (unfold rng; (repeat' split) <;> omega)), ?_⟩
                  refine ih35 _ _ ?_ ?_ ?_ ?_
                  · exact rτ156
                  · exact fτ156
                  · refine ⟨?_, ?_, ?_⟩; exact (by first | exact pt9); exact (by first | exact so9); exact (by (first | omega | with_reducible assumption | (unfold rng; omega) | (unfold rng; (repeat' split) <;> omega)))
                  · (try simp only [rII, rIJ, rIP, rJJ, rJI, rJP, rPP, rPI, rPJ, g1, g2, g3, g4, g5, g6, g7, g8, Nat.reduceEqDiff, Nat.reduceAdd, false_and, and_false, true_and, and_true, reduceIte, nZ0, nZ1, eτ156_118.1, eτ156_118.2, fun a k => (jτ156 a k).1, fun a k => (jτ156 a k).2, pτ156]) <;> (first | omega | with_reducible assumption | (unfold rng; omega) | (unfold rng; (repeat' split) <;> omega))
                · rename_i hc173
                  skip
                  unfold w_X16_passFold_176
                  try simp only [forall_eq, rII, rIJ, rIP, rJJ, rJI, rJP, rPP, rPI, rPJ, g1, g2, g3, g4, g5, g6, g7, g8, Nat.reduceEqDiff, Nat.reduceAdd, false_and, and_false, true_and, and_true, reduceIte, nZ0, nZ1, eτ156_118.1, eτ156_118.2, fun a k => (jτ156 a k).1, fun a k => (jτ156 a k).2, pτ156]
                  have hle := i64_le (by assumption)
                  have s156 := i64_succ (x := v12) (by omega)
                  have se9 := span_end tm9 hA.2 h8 h9b hi156 (by omega)
                  refine ⟨ja, by exact hj, hja, ?_⟩
                  refine ⟨by (first | omega | with_reducible assumption | (unfold rng; omega) | (unfold rng; (repeat' split) <;> omega)), ?_⟩
                  refine ⟨ja, by exact hj, hja, ?_⟩
                  refine ⟨by (first | omega | with_reducible assumption | (unfold rng; omega) | (unfold rng; (repeat' split) <;> omega)), ?_⟩
                  refine s2_X16_gatherIn g rτ156 (by first | exact hj | (rw [fτ156.2.2.2]; exact hj)) hja (by (try simp only [rII, rIJ, rIP, rJJ, rJI, rJP, rPP, rPI, rPJ, g1, g2, g3, g4, g5, g6, g7, g8, Nat.reduceEqDiff, Nat.reduceAdd, false_and, and_false, true_and, and_true, reduceIte, nZ0, nZ1, eτ156_118.1, eτ156_118.2, fun a k => (jτ156 a k).1, fun a k => (jτ156 a k).2, pτ156]) <;> (first | omega | with_reducible assumption | (unfold rng; omega) | (unfold rng; (repeat' split) <;> omega))) (by (try simp only [rII, rIJ, rIP, rJJ, rJI, rJP, rPP, rPI, rPJ, g1, g2, g3, g4, g5, g6, g7, g8, Nat.reduceEqDiff, Nat.reduceAdd, false_and, and_false, true_and, and_true, reduceIte, nZ0, nZ1, eτ156_118.1, eτ156_118.2, fun a k => (jτ156 a k).1, fun a k => (jτ156 a k).2, pτ156]) <;> (first | omega | with_reducible assumption | (unfold rng; omega) | (unfold rng; (repeat' split) <;> omega))) (by omega) (by (try simp only [rII, rIJ, rIP, rJJ, rJI, rJP, rPP, rPI, rPJ, g1, g2, g3, g4, g5, g6, g7, g8, Nat.reduceEqDiff, Nat.reduceAdd, false_and, and_false, true_and, and_true, reduceIte, nZ0, nZ1, eτ156_118.1, eτ156_118.2, fun a k => (jτ156 a k).1, fun a k => (jτ156 a k).2, pτ156]) <;> (first | omega | with_reducible assumption | (unfold rng; omega) | (unfold rng; (repeat' split) <;> omega))) (by first | exact pt9) hA (by (try simp only [rII, rIJ, rIP, rJJ, rJI, rJP, rPP, rPI, rPJ, g1, g2, g3, g4, g5, g6, g7, g8, Nat.reduceEqDiff, Nat.reduceAdd, false_and, and_false, true_and, and_true, reduceIte, nZ0, nZ1, eτ156_118.1, eτ156_118.2, fun a k => (jτ156 a k).1, fun a k => (jτ156 a k).2, pτ156]) <;> first | exact gap_end tm9 hA.2 h8 | exact se9) (by omega) (fun σ55 _ rσ55 fc p12 => ?_) (fun σx E rx fx px => hX _ _ rx (Fr.tr fτ156 (Fr.mor (fx) (by decide) (by decide))) px)
                  have fσ55 : Fr ra jx rm [20, 81, 82, 115, 116, 119] [21, 117] σ σ55 := Fr.tr fτ156 (Fr.mor (fc) (by decide) (by decide))
                  have pt9 := p12.1
                  have so9 := SoI.fr so9 fc (by decide)
                  have eσ55_118 := fσ55.1 118 (by decide)
                  have jσ55 := fσ55.2.2.1
                  have pσ55 := fσ55.2.2.2
                  try simp only [forall_eq, rII, rIJ, rIP, rJJ, rJI, rJP, rPP, rPI, rPJ, g1, g2, g3, g4, g5, g6, g7, g8, Nat.reduceEqDiff, Nat.reduceAdd, false_and, and_false, true_and, and_true, reduceIte, nZ0, nZ1, eσ55_118.1, eσ55_118.2, fun a k => (jσ55 a k).1, fun a k => (jσ55 a k).2, pσ55]
                  refine ih156 _ _ ?_ ?_ ?_ ?_
                  · exact rσ55
                  · exact fσ55
                  · refine ⟨?_, ?_, ?_⟩; exact (by first | exact pt9); exact (by first | exact so9); exact (by first | exact Int.le_of_eq k156.symm | exact (by rw [s156]; omega))
                  · (try simp only [rII, rIJ, rIP, rJJ, rJI, rJP, rPP, rPI, rPJ, g1, g2, g3, g4, g5, g6, g7, g8, Nat.reduceEqDiff, Nat.reduceAdd, false_and, and_false, true_and, and_true, reduceIte, nZ0, nZ1, eσ55_118.1, eσ55_118.2, fun a k => (jσ55 a k).1, fun a k => (jσ55 a k).2, pσ55]) <;> (first | omega | with_reducible assumption | (unfold rng; omega) | (unfold rng; (repeat' split) <;> omega))
            refine ⟨_, L156 _ _ _ ?_ ?_ ?_ (Nat.lt_succ_self _)⟩
            · exact rσ43
            · exact fσ43
            · refine ⟨?_, ?_, ?_⟩; exact (by first | exact pt9); exact (by first | exact so9); exact (by first | exact Int.le_of_eq k156.symm | exact (by rw [s156]; omega))
          · rename_i hc73
            skip
            unfold w_X16_passFold_76
            try simp only [forall_eq, rII, rIJ, rIP, rJJ, rJI, rJP, rPP, rPI, rPJ, g1, g2, g3, g4, g5, g6, g7, g8, Nat.reduceEqDiff, Nat.reduceAdd, false_and, and_false, true_and, and_true, reduceIte, nZ0, nZ1, eσ43_118.1, eσ43_118.2, fun a k => (jσ43 a k).1, fun a k => (jσ43 a k).2, pσ43]
            unfold w_X16_passFold_220
            try simp only [forall_eq, rII, rIJ, rIP, rJJ, rJI, rJP, rPP, rPI, rPJ, g1, g2, g3, g4, g5, g6, g7, g8, Nat.reduceEqDiff, Nat.reduceAdd, false_and, and_false, true_and, and_true, reduceIte, nZ0, nZ1, eσ43_118.1, eσ43_118.2, fun a k => (jσ43 a k).1, fun a k => (jσ43 a k).2, pσ43]
            refine ⟨by (first | omega | with_reducible assumption | (unfold rng; omega) | (unfold rng; (repeat' split) <;> omega)), ?_⟩
            refine ih35 _ _ ?_ ?_ ?_ ?_
            · exact rσ43
            · exact fσ43
            · refine ⟨?_, ?_, ?_⟩; exact (by first | exact pt9); exact (by first | exact so9); exact (by (first | omega | with_reducible assumption | (unfold rng; omega) | (unfold rng; (repeat' split) <;> omega)))
            · (try simp only [rII, rIJ, rIP, rJJ, rJI, rJP, rPP, rPI, rPJ, g1, g2, g3, g4, g5, g6, g7, g8, Nat.reduceEqDiff, Nat.reduceAdd, false_and, and_false, true_and, and_true, reduceIte, nZ0, nZ1, eσ43_118.1, eσ43_118.2, fun a k => (jσ43 a k).1, fun a k => (jσ43 a k).2, pσ43]) <;> (first | omega | with_reducible assumption | (unfold rng; omega) | (unfold rng; (repeat' split) <;> omega))
    refine ⟨_, L35 _ _ _ ?_ ?_ ?_ (Nat.lt_succ_self _)⟩
    · exact rσ40
    · exact fσ40
    · refine ⟨?_, ?_, ?_⟩; exact (by first | exact pt9); exact (by first | exact so9); exact (by (first | omega | with_reducible assumption | (unfold rng; omega) | (unfold rng; (repeat' split) <;> omega)))
  · rename_i hc15
    skip
    unfold w_X16_passFold_18
    try simp only [forall_eq, rII, rIJ, rIP, rJJ, rJI, rJP, rPP, rPI, rPJ, g1, g2, g3, g4, g5, g6, g7, g8, Nat.reduceEqDiff, Nat.reduceAdd, false_and, and_false, true_and, and_true, reduceIte, nZ0, nZ1]
    unfold w_X16_passFold_23
    try simp only [forall_eq, rII, rIJ, rIP, rJJ, rJI, rJP, rPP, rPI, rPJ, g1, g2, g3, g4, g5, g6, g7, g8, Nat.reduceEqDiff, Nat.reduceAdd, false_and, and_false, true_and, and_true, reduceIte, nZ0, nZ1]
    refine s2_X16_sort g rσ (by first | exact hj | (rw [fσ.2.2.2]; exact hj)) hja (by (try simp only [rII, rIJ, rIP, rJJ, rJI, rJP, rPP, rPI, rPJ, g1, g2, g3, g4, g5, g6, g7, g8, Nat.reduceEqDiff, Nat.reduceAdd, false_and, and_false, true_and, and_true, reduceIte, nZ0, nZ1]) <;> (first | omega | with_reducible assumption | (unfold rng; omega) | (unfold rng; (repeat' split) <;> omega))) (fun σ56 r57 rσ56 fc p13 => ?_)
    have fσ56 : Fr ra jx rm [20, 81, 82, 115, 116, 119] [21, 117] σ σ56 := Fr.tr fσ (Fr.mor (fc) (by decide) (by decide))
    have pt9 := PtI.fr pt9 fc (by decide) (by decide)
    have so9 : SoI ra σ56 _ _ _ := p13.2
    have sn9 := p13.1
    have eσ56_118 := fσ56.1 118 (by decide)
    have jσ56 := fσ56.2.2.1
    have pσ56 := fσ56.2.2.2
    try simp only [forall_eq, rII, rIJ, rIP, rJJ, rJI, rJP, rPP, rPI, rPJ, g1, g2, g3, g4, g5, g6, g7, g8, Nat.reduceEqDiff, Nat.reduceAdd, false_and, and_false, true_and, and_true, reduceIte, nZ0, nZ1, eσ56_118.1, eσ56_118.2, fun a k => (jσ56 a k).1, fun a k => (jσ56 a k).2, pσ56]
    have q14 := rσ.1 118 (v2.toNat); simp only [rgT] at q14
    have q15 := rσ.1 118 ((v2 + 1).toNat); simp only [rgT] at q15
    have q16 := rσ.2.1 117; simp only [rgS] at q16
    have L35 : ∀ (fu35 : Nat) (τ35 : Sg) (v6 : Int), Rg ra jx rm τ35 → Fr ra jx rm [20, 81, 82, 115, 116, 119] [21, 117] σ τ35 → (PtI ra rm τ35 b A ∧ SoI ra τ35 r57 (gI σ (ra 118) v2.toNat) (gI σ (ra 118) (v2 + 1).toNat) ∧ (0 ≤ v6 ∧ v6 ≤ r57 ∧ (1 = 0 ∨ 1 = 1))) → ((r57 - v6).toNat) < fu35 → wl_X16_passFold_35 ra jx rm Q X fu35 τ35 v1 (gI σ rm 117) 1 r57 v6 := by
      intro fu35
      induction fu35 with
      | zero => intro τ35 _ _ _ _ h9; omega
      | succ fu35 ih35 =>
        intro τ35 v6 rτ35 fτ35 hi35 hm35
        unfold wl_X16_passFold_35
        have eτ35_118 := fτ35.1 118 (by decide)
        have jτ35 := fτ35.2.2.1
        have pτ35 := fτ35.2.2.2
        unfold w_X16_passFold_35
        try simp only [forall_eq, rII, rIJ, rIP, rJJ, rJI, rJP, rPP, rPI, rPJ, g1, g2, g3, g4, g5, g6, g7, g8, Nat.reduceEqDiff, Nat.reduceAdd, false_and, and_false, true_and, and_true, reduceIte, nZ0, nZ1, eτ35_118.1, eτ35_118.2, fun a k => (jτ35 a k).1, fun a k => (jτ35 a k).2, pτ35]
        obtain ⟨pt9, so9, hi35⟩ := hi35
        split
        · rename_i hc39
          skip
          unfold w_X16_passFold_226
          try simp only [forall_eq, rII, rIJ, rIP, rJJ, rJI, rJP, rPP, rPI, rPJ, g1, g2, g3, g4, g5, g6, g7, g8, Nat.reduceEqDiff, Nat.reduceAdd, false_and, and_false, true_and, and_true, reduceIte, nZ0, nZ1, eτ35_118.1, eτ35_118.2, fun a k => (jτ35 a k).1, fun a k => (jτ35 a k).2, pτ35]
          refine hQ _ _ ?_ ?_ ?_
          · exact rτ35
          · exact fτ35
          · refine ⟨(by first | exact pt9), ?_⟩; first | trivial | (first | omega | with_reducible assumption | (unfold rng; omega) | (unfold rng; (repeat' split) <;> omega))
        · rename_i hc39
          skip
          unfold w_X16_passFold_42
          try simp only [forall_eq, rII, rIJ, rIP, rJJ, rJI, rJP, rPP, rPI, rPJ, g1, g2, g3, g4, g5, g6, g7, g8, Nat.reduceEqDiff, Nat.reduceAdd, false_and, and_false, true_and, and_true, reduceIte, nZ0, nZ1, eτ35_118.1, eτ35_118.2, fun a k => (jτ35 a k).1, fun a k => (jτ35 a k).2, pτ35]
          have sm9 := so9 v6.toNat (by omega)
          refine ⟨by (first | omega | with_reducible assumption | (unfold rng; omega) | (unfold rng; (repeat' split) <;> omega)), ?_⟩
          have q17 := rτ35.1 119 (v6.toNat); simp only [rgT] at q17
          refine s_X16_load g rτ35 (by (try simp only [rII, rIJ, rIP, rJJ, rJI, rJP, rPP, rPI, rPJ, g1, g2, g3, g4, g5, g6, g7, g8, Nat.reduceEqDiff, Nat.reduceAdd, false_and, and_false, true_and, and_true, reduceIte, nZ0, nZ1, eτ35_118.1, eτ35_118.2, fun a k => (jτ35 a k).1, fun a k => (jτ35 a k).2, pτ35]) <;> (first | omega | with_reducible assumption | (unfold rng; omega) | (unfold rng; (repeat' split) <;> omega))) (fun σ58 _ rσ58 fc p18 => ?_)
          have fσ58 : Fr ra jx rm [20, 81, 82, 115, 116, 119] [21, 117] σ σ58 := Fr.tr fτ35 (Fr.mor (fc) (by decide) (by decide))
          have pt9 := PtI.fr pt9 fc (by decide) (by decide)
          have so9 := SoI.fr so9 fc (by decide)
          have eσ58_118 := fσ58.1 118 (by decide)
          have jσ58 := fσ58.2.2.1
          have pσ58 := fσ58.2.2.2
          try simp only [forall_eq, rII, rIJ, rIP, rJJ, rJI, rJP, rPP, rPI, rPJ, g1, g2, g3, g4, g5, g6, g7, g8, Nat.reduceEqDiff, Nat.reduceAdd, false_and, and_false, true_and, and_true, reduceIte, nZ0, nZ1, eσ58_118.1, eσ58_118.2, fun a k => (jσ58 a k).1, fun a k => (jσ58 a k).2, pσ58]
          refine ⟨by (first | omega | with_reducible assumption | (unfold rng; omega) | (unfold rng; (repeat' split) <;> omega)), ?_⟩
          refine s_X16_isWeighed g rσ58 (by first | exact hj | (rw [fσ58.2.2.2]; exact hj)) hja (by (try simp only [rII, rIJ, rIP, rJJ, rJI, rJP, rPP, rPI, rPJ, g1, g2, g3, g4, g5, g6, g7, g8, Nat.reduceEqDiff, Nat.reduceAdd, false_and, and_false, true_and, and_true, reduceIte, nZ0, nZ1, eσ58_118.1, eσ58_118.2, fun a k => (jσ58 a k).1, fun a k => (jσ58 a k).2, pσ58]) <;> (first | omega | with_reducible assumption | (unfold rng; omega) | (unfold rng; (repeat' split) <;> omega))) (by (try simp only [rII, rIJ, rIP, rJJ, rJI, rJP, rPP, rPI, rPJ, g1, g2, g3, g4, g5, g6, g7, g8, Nat.reduceEqDiff, Nat.reduceAdd, false_and, and_false, true_and, and_true, reduceIte, nZ0, nZ1, eσ58_118.1, eσ58_118.2, fun a k => (jσ58 a k).1, fun a k => (jσ58 a k).2, pσ58]) <;> exact fun k h0 h9 h8 => PO.fr (hvs k h0 h9 h8) hja fσ58 (by decide)) (fun σ59 r60 rσ59 fc p19 => ?_)
          have fσ59 : Fr ra jx rm [20, 81, 82, 115, 116, 119] [21, 117] σ σ59 := Fr.tr fσ58 (Fr.mor (fc) (by decide) (by decide))
          have tm9 := PtI.lo0 (i := gI τ35 (ra 119) v6.toNat) pt9 (by omega) (by omega)
          have pt9 := PtI.fr pt9 fc (by decide) (by decide)
          have so9 := SoI.fr so9 fc (by decide)
          have eσ59_118 := fσ59.1 118 (by decide)
          have jσ59 := fσ59.2.2.1
          have pσ59 := fσ59.2.2.2
          try simp only [forall_eq, rII, rIJ, rIP, rJJ, rJI, rJP, rPP, rPI, rPJ, g1, g2, g3, g4, g5, g6, g7, g8, Nat.reduceEqDiff, Nat.reduceAdd, false_and, and_false, true_and, and_true, reduceIte, nZ0, nZ1, eσ59_118.1, eσ59_118.2, fun a k => (jσ59 a k).1, fun a k => (jσ59 a k).2, pσ59]
          split
          · rename_i hc73
            skip
            unfold w_X16_passFold_79
            try simp only [forall_eq, rII, rIJ, rIP, rJJ, rJI, rJP, rPP, rPI, rPJ, g1, g2, g3, g4, g5, g6, g7, g8, Nat.reduceEqDiff, Nat.reduceAdd, false_and, and_false, true_and, and_true, reduceIte, nZ0, nZ1, eσ59_118.1, eσ59_118.2, fun a k => (jσ59 a k).1, fun a k => (jσ59 a k).2, pσ59]
            refine ⟨ja, by exact hj, hja, ?_⟩
            refine ⟨by (first | omega | with_reducible assumption | (unfold rng; omega) | (unfold rng; (repeat' split) <;> omega)), ?_⟩
            have q20 := rσ.2.2.1 ja 10 (v1.toNat); simp only [rgJ] at q20
            refine ⟨by (first | omega | with_reducible assumption | (unfold rng; omega) | (unfold rng; (repeat' split) <;> omega)), ?_⟩
            try rw [if_neg (by decide)]
            unfold w_X16_passFold_100
            try simp only [forall_eq, rII, rIJ, rIP, rJJ, rJI, rJP, rPP, rPI, rPJ, g1, g2, g3, g4, g5, g6, g7, g8, Nat.reduceEqDiff, Nat.reduceAdd, false_and, and_false, true_and, and_true, reduceIte, nZ0, nZ1, eσ59_118.1, eσ59_118.2, fun a k => (jσ59 a k).1, fun a k => (jσ59 a k).2, pσ59]
            refine ⟨ja, by exact hj, hja, ?_⟩
            refine ⟨by (first | omega | with_reducible assumption | (unfold rng; omega) | (unfold rng; (repeat' split) <;> omega)), ?_⟩
            refine s2_X16_gatherIn g rσ59 (by first | exact hj | (rw [fσ59.2.2.2]; exact hj)) hja (by (try simp only [rII, rIJ, rIP, rJJ, rJI, rJP, rPP, rPI, rPJ, g1, g2, g3, g4, g5, g6, g7, g8, Nat.reduceEqDiff, Nat.reduceAdd, false_and, and_false, true_and, and_true, reduceIte, nZ0, nZ1, eσ59_118.1, eσ59_118.2, fun a k => (jσ59 a k).1, fun a k => (jσ59 a k).2, pσ59]) <;> (first | omega | with_reducible assumption | (unfold rng; omega) | (unfold rng; (repeat' split) <;> omega))) (by (try simp only [rII, rIJ, rIP, rJJ, rJI, rJP, rPP, rPI, rPJ, g1, g2, g3, g4, g5, g6, g7, g8, Nat.reduceEqDiff, Nat.reduceAdd, false_and, and_false, true_and, and_true, reduceIte, nZ0, nZ1, eσ59_118.1, eσ59_118.2, fun a k => (jσ59 a k).1, fun a k => (jσ59 a k).2, pσ59]) <;> (first | omega | with_reducible assumption | (unfold rng; omega) | (unfold rng; (repeat' split) <;> omega))) (by omega) (by (try simp only [rII, rIJ, rIP, rJJ, rJI, rJP, rPP, rPI, rPJ, g1, g2, g3, g4, g5, g6, g7, g8, Nat.reduceEqDiff, Nat.reduceAdd, false_and, and_false, true_and, and_true, reduceIte, nZ0, nZ1, eσ59_118.1, eσ59_118.2, fun a k => (jσ59 a k).1, fun a k => (jσ59 a k).2, pσ59]) <;> (first | omega | with_reducible assumption | (unfold rng; omega) | (unfold rng; (repeat' split) <;> omega))) (by first | exact pt9) hA (by (try simp only [rII, rIJ, rIP, rJJ, rJI, rJP, rPP, rPI, rPJ, g1, g2, g3, g4, g5, g6, g7, g8, Nat.reduceEqDiff, Nat.reduceAdd, false_and, and_false, true_and, and_true, reduceIte, nZ0, nZ1, eσ59_118.1, eσ59_118.2, fun a k => (jσ59 a k).1, fun a k => (jσ59 a k).2, pσ59]) <;> first | exact gap_end tm9 hA.2 h8 | exact se9) (by omega) (fun σ63 _ rσ63 fc p21 => ?_) (fun σx E rx fx px => hX _ _ rx (Fr.tr fσ59 (Fr.mor (fx) (by decide) (by decide))) px)
            have fσ63 : Fr ra jx rm [20, 81, 82, 115, 116, 119] [21, 117] σ σ63 := Fr.tr fσ59 (Fr.mor (fc) (by decide) (by decide))
            have pt9 := p21.1
            have so9 := SoI.fr so9 fc (by decide)
            have eσ63_118 := fσ63.1 118 (by decide)
            have jσ63 := fσ63.2.2.1
            have pσ63 := fσ63.2.2.2
            try simp only [forall_eq, rII, rIJ, rIP, rJJ, rJI, rJP, rPP, rPI, rPJ, g1, g2, g3, g4, g5, g6, g7, g8, Nat.reduceEqDiff, Nat.reduceAdd, false_and, and_false, true_and, and_true, reduceIte, nZ0, nZ1, eσ63_118.1, eσ63_118.2, fun a k => (jσ63 a k).1, fun a k => (jσ63 a k).2, pσ63]
            unfold w_X16_passFold_220
            try simp only [forall_eq, rII, rIJ, rIP, rJJ, rJI, rJP, rPP, rPI, rPJ, g1, g2, g3, g4, g5, g6, g7, g8, Nat.reduceEqDiff, Nat.reduceAdd, false_and, and_false, true_and, and_true, reduceIte, nZ0, nZ1, eσ63_118.1, eσ63_118.2, fun a k => (jσ63 a k).1, fun a k => (jσ63 a k).2, pσ63]
            refine ⟨by (first | omega | with_reducible assumption | (unfold rng; omega) | (unfold rng; (repeat' split) <;> omega)), ?_⟩
            refine ih35 _ _ ?_ ?_ ?_ ?_
            · exact rσ63
            · exact fσ63
            · refine ⟨?_, ?_, ?_⟩; exact (by first | exact pt9); exact (by first | exact so9); exact (by (first | omega | with_reducible assumption | (unfold rng; omega) | (unfold rng; (repeat' split) <;> omega)))
            · (try simp only [rII, rIJ, rIP, rJJ, rJI, rJP, rPP, rPI, rPJ, g1, g2, g3, g4, g5, g6, g7, g8, Nat.reduceEqDiff, Nat.reduceAdd, false_and, and_false, true_and, and_true, reduceIte, nZ0, nZ1, eσ63_118.1, eσ63_118.2, fun a k => (jσ63 a k).1, fun a k => (jσ63 a k).2, pσ63]) <;> (first | omega | with_reducible assumption | (unfold rng; omega) | (unfold rng; (repeat' split) <;> omega))
          · rename_i hc73
            skip
            unfold w_X16_passFold_76
            try simp only [forall_eq, rII, rIJ, rIP, rJJ, rJI, rJP, rPP, rPI, rPJ, g1, g2, g3, g4, g5, g6, g7, g8, Nat.reduceEqDiff, Nat.reduceAdd, false_and, and_false, true_and, and_true, reduceIte, nZ0, nZ1, eσ59_118.1, eσ59_118.2, fun a k => (jσ59 a k).1, fun a k => (jσ59 a k).2, pσ59]
            unfold w_X16_passFold_220
            try simp only [forall_eq, rII, rIJ, rIP, rJJ, rJI, rJP, rPP, rPI, rPJ, g1, g2, g3, g4, g5, g6, g7, g8, Nat.reduceEqDiff, Nat.reduceAdd, false_and, and_false, true_and, and_true, reduceIte, nZ0, nZ1, eσ59_118.1, eσ59_118.2, fun a k => (jσ59 a k).1, fun a k => (jσ59 a k).2, pσ59]
            refine ⟨by (first | omega | with_reducible assumption | (unfold rng; omega) | (unfold rng; (repeat' split) <;> omega)), ?_⟩
            refine ih35 _ _ ?_ ?_ ?_ ?_
            · exact rσ59
            · exact fσ59
            · refine ⟨?_, ?_, ?_⟩; exact (by first | exact pt9); exact (by first | exact so9); exact (by (first | omega | with_reducible assumption | (unfold rng; omega) | (unfold rng; (repeat' split) <;> omega)))
            · (try simp only [rII, rIJ, rIP, rJJ, rJI, rJP, rPP, rPI, rPJ, g1, g2, g3, g4, g5, g6, g7, g8, Nat.reduceEqDiff, Nat.reduceAdd, false_and, and_false, true_and, and_true, reduceIte, nZ0, nZ1, eσ59_118.1, eσ59_118.2, fun a k => (jσ59 a k).1, fun a k => (jσ59 a k).2, pσ59]) <;> (first | omega | with_reducible assumption | (unfold rng; omega) | (unfold rng; (repeat' split) <;> omega))
    refine ⟨_, L35 _ _ _ ?_ ?_ ?_ (Nat.lt_succ_self _)⟩
    · exact rσ56
    · exact fσ56
    · refine ⟨?_, ?_, ?_⟩; exact (by first | exact pt9); exact (by first | exact so9); exact (by (first | omega | with_reducible assumption | (unfold rng; omega) | (unfold rng; (repeat' split) <;> omega)))
set_option maxHeartbeats 4000000 in
theorem s2_X16_passTop {ra : Nat → Nat} {jx : Nat → Nat → Nat} {rm : Nat} {ja : Nat} {b : Int} {A : Int} (g : Geo ra jx rm) {σ : Sg} {v1 : Int} {v2 : Int} (rσ : Rg ra jx rm σ) (hj : gP σ rm 17 = some ja) (hja : ja = ra 15 ∨ ja = ra 16) (h1 : 0 ≤ v1 ∧ v1 < 16) (h2 : 0 ≤ v2 ∧ v2 < 16) (hc7 : gI σ (jx ja 6) v2.toNat ≤ 7) (h8 : (gJ σ (jx ja 8) v1.toNat).toInt ≤ 9) (hpt : PtI ra rm σ b A) (hA : 1000000 ≤ A ∧ A ≤ 2000000) (hin_v2 : gI σ (ra 118) (v2 + 1).toNat ≤ b) (h9 : 1 ≤ (gJ σ (jx ja 9) v1.toNat).toInt ∧ (gJ σ (jx ja 9) v1.toNat).toInt ≤ 1000) {Q : Sg → Unit → Prop} {X : Sg → String → Prop} (hQ : ∀ (σ' : Sg) (r : Unit), Rg ra jx rm σ' → Fr ra jx rm [81, 115, 116, 119, 120] [117] σ σ' → (PtI ra rm σ' b A ∧ (True)) → Q σ' r) (hX : ∀ (σ' : Sg) (E : String), Rg ra jx rm σ' → Fr ra jx rm [81, 115, 116, 119, 120] [117] σ σ' → (E = "StreamHouseModel$Broken") → X σ' E) : wp_X16_passTop ra jx rm v1 v2 σ Q X := by
  obtain ⟨g1, g2, g3, g4, g5, g6, g7, g8⟩ := id g
  have fσ : Fr ra jx rm [81, 115, 116, 119, 120] [117] σ σ := Fr.rf
  have pt9 := hpt
  have nz9 : (gJ σ (jx ja 9) v1.toNat) ≠ 0 := fun q => by have := h9.1; rw [q] at this; exact absurd this (by decide)
  unfold wp_X16_passTop
  unfold w_X16_passTop_0
  try simp only [forall_eq, rII, rIJ, rIP, rJJ, rJI, rJP, rPP, rPI, rPJ, g1, g2, g3, g4, g5, g6, g7, g8, Nat.reduceEqDiff, Nat.reduceAdd, false_and, and_false, true_and, and_true, reduceIte, nZ0, nZ1]
  refine s2_X16_sort g rσ (by first | exact hj | (rw [fσ.2.2.2]; exact hj)) hja (by (try simp only [rII, rIJ, rIP, rJJ, rJI, rJP, rPP, rPI, rPJ, g1, g2, g3, g4, g5, g6, g7, g8, Nat.reduceEqDiff, Nat.reduceAdd, false_and, and_false, true_and, and_true, reduceIte, nZ0, nZ1]) <;> (first | omega | with_reducible assumption | (unfold rng; omega) | (unfold rng; (repeat' split) <;> omega))) (fun σ35 r36 rσ35 fc p1 => ?_)
  have fσ35 : Fr ra jx rm [81, 115, 116, 119, 120] [117] σ σ35 := Fr.tr fσ (Fr.mor (fc) (by decide) (by decide))
  have pt9 := PtI.fr (PtI.fr (jx := jx) (K := [81, 120]) (S := []) pt9 (by repeat (first | exact Fr.rf | assumption | refine Fr.aJ g ?_ (by decide) | refine Fr.aI g ?_ (by decide) | refine Fr.sI g ?_ (by decide) | refine Fr.sJ g ?_ (by decide))) (by decide) (by decide)) fc (by decide) (by decide)
  have so9 : SoI ra σ35 _ _ _ := p1.2
  have sn9 := p1.1
  have eσ35_118 := fσ35.1 118 (by decide)
  have jσ35 := fσ35.2.2.1
  have pσ35 := fσ35.2.2.2
  try simp only [forall_eq, rII, rIJ, rIP, rJJ, rJI, rJP, rPP, rPI, rPJ, g1, g2, g3, g4, g5, g6, g7, g8, Nat.reduceEqDiff, Nat.reduceAdd, false_and, and_false, true_and, and_true, reduceIte, nZ0, nZ1, eσ35_118.1, eσ35_118.2, fun a k => (jσ35 a k).1, fun a k => (jσ35 a k).2, pσ35]
  refine ⟨ja, by exact hj, hja, ?_⟩
  refine ⟨by (first | omega | with_reducible assumption | (unfold rng; omega) | (unfold rng; (repeat' split) <;> omega)), ?_⟩
  have q2 := rσ.1 118 (v2.toNat); simp only [rgT] at q2
  have q3 := rσ.1 118 ((v2 + 1).toNat); simp only [rgT] at q3
  have q4 := rσ.2.2.1 ja 10 (v1.toNat); simp only [rgJ] at q4
  have L20 : ∀ (fu20 : Nat) (τ20 : Sg) (v5 : Int), Rg ra jx rm τ20 → Fr ra jx rm [81, 115, 116, 119, 120] [117] σ τ20 → (PtI ra rm τ20 b A ∧ SoI ra τ20 r36 (gI σ (ra 118) v2.toNat) (gI σ (ra 118) (v2 + 1).toNat) ∧ (0 ≤ v5 ∧ v5 ≤ r36)) → ((r36 - v5).toNat) < fu20 → wl_X16_passTop_20 ra jx rm Q X fu20 τ20 v1 v2 r36 (gI σ (jx ja 10) v1.toNat) v5 := by
    intro fu20
    induction fu20 with
    | zero => intro τ20 _ _ _ _ h9; omega
    | succ fu20 ih20 =>
      intro τ20 v5 rτ20 fτ20 hi20 hm20
      unfold wl_X16_passTop_20
      have eτ20_118 := fτ20.1 118 (by decide)
      have jτ20 := fτ20.2.2.1
      have pτ20 := fτ20.2.2.2
      unfold w_X16_passTop_20
      try simp only [forall_eq, rII, rIJ, rIP, rJJ, rJI, rJP, rPP, rPI, rPJ, g1, g2, g3, g4, g5, g6, g7, g8, Nat.reduceEqDiff, Nat.reduceAdd, false_and, and_false, true_and, and_true, reduceIte, nZ0, nZ1, eτ20_118.1, eτ20_118.2, fun a k => (jτ20 a k).1, fun a k => (jτ20 a k).2, pτ20]
      obtain ⟨pt9, so9, hi20⟩ := hi20
      split
      · rename_i hc23
        skip
        unfold w_X16_passTop_40
        try simp only [forall_eq, rII, rIJ, rIP, rJJ, rJI, rJP, rPP, rPI, rPJ, g1, g2, g3, g4, g5, g6, g7, g8, Nat.reduceEqDiff, Nat.reduceAdd, false_and, and_false, true_and, and_true, reduceIte, nZ0, nZ1, eτ20_118.1, eτ20_118.2, fun a k => (jτ20 a k).1, fun a k => (jτ20 a k).2, pτ20]
        have L43 : ∀ (fu43 : Nat) (τ43 : Sg) (v5 : Int), Rg ra jx rm τ43 → Fr ra jx rm [81, 115, 116, 119, 120] [117] σ τ43 → (PtI ra rm τ43 b A ∧ SoI ra τ43 r36 (gI σ (ra 118) v2.toNat) (gI σ (ra 118) (v2 + 1).toNat) ∧ (0 ≤ v5 ∧ v5 ≤ r36)) → ((r36 - v5).toNat) < fu43 → wl_X16_passTop_43 ra jx rm Q X fu43 τ43 v1 v2 r36 (gI σ (jx ja 10) v1.toNat) v5 := by
          intro fu43
          induction fu43 with
          | zero => intro τ43 _ _ _ _ h9; omega
          | succ fu43 ih43 =>
            intro τ43 v5 rτ43 fτ43 hi43 hm43
            unfold wl_X16_passTop_43
            have eτ43_118 := fτ43.1 118 (by decide)
            have jτ43 := fτ43.2.2.1
            have pτ43 := fτ43.2.2.2
            unfold w_X16_passTop_43
            try simp only [forall_eq, rII, rIJ, rIP, rJJ, rJI, rJP, rPP, rPI, rPJ, g1, g2, g3, g4, g5, g6, g7, g8, Nat.reduceEqDiff, Nat.reduceAdd, false_and, and_false, true_and, and_true, reduceIte, nZ0, nZ1, eτ43_118.1, eτ43_118.2, fun a k => (jτ43 a k).1, fun a k => (jτ43 a k).2, pτ43]
            obtain ⟨pt9, so9, hi43⟩ := hi43
            split
            · rename_i hc46
              skip
              unfold w_X16_passTop_363
              try simp only [forall_eq, rII, rIJ, rIP, rJJ, rJI, rJP, rPP, rPI, rPJ, g1, g2, g3, g4, g5, g6, g7, g8, Nat.reduceEqDiff, Nat.reduceAdd, false_and, and_false, true_and, and_true, reduceIte, nZ0, nZ1, eτ43_118.1, eτ43_118.2, fun a k => (jτ43 a k).1, fun a k => (jτ43 a k).2, pτ43]
              refine hQ _ _ ?_ ?_ ?_
              · exact rτ43
              · exact fτ43
              · refine ⟨(by first | exact pt9 | exact PtI.fr (jx := jx) (K := [81, 120]) (S := []) pt9 (by repeat (first | exact Fr.rf | assumption | refine Fr.aJ g ?_ (by decide) | refine Fr.aI g ?_ (by decide) | refine Fr.sI g ?_ (by decide) | refine Fr.sJ g ?_ (by decide))) (by decide) (by decide)), ?_⟩; first | trivial | (first | omega | with_reducible assumption | (unfold rng; omega) | (unfold rng; (repeat' split) <;> omega))
            · rename_i hc46
              skip
              unfold w_X16_passTop_49
              try simp only [forall_eq, rII, rIJ, rIP, rJJ, rJI, rJP, rPP, rPI, rPJ, g1, g2, g3, g4, g5, g6, g7, g8, Nat.reduceEqDiff, Nat.reduceAdd, false_and, and_false, true_and, and_true, reduceIte, nZ0, nZ1, eτ43_118.1, eτ43_118.2, fun a k => (jτ43 a k).1, fun a k => (jτ43 a k).2, pτ43]
              have sm9 := so9 v5.toNat (by omega)
              have tm9 := top_end (PtI.lo0 (i := gI τ43 (ra 119) v5.toNat) pt9 (by omega) (by omega)) hA.2 h9
              refine ⟨by (first | omega | with_reducible assumption | (unfold rng; omega) | (unfold rng; (repeat' split) <;> omega)), ?_⟩
              have q5 := rτ43.1 119 (v5.toNat); simp only [rgT] at q5
              refine ⟨by (first | omega | with_reducible assumption | (unfold rng; omega) | (unfold rng; (repeat' split) <;> omega)), ?_⟩
              refine ⟨ja, by exact hj, hja, ?_⟩
              refine ⟨by (first | omega | with_reducible assumption | (unfold rng; omega) | (unfold rng; (repeat' split) <;> omega)), ?_⟩
              refine ⟨by (first | omega | with_reducible assumption | (unfold rng; omega) | (unfold rng; (repeat' split) <;> omega)), ?_⟩
              split
              · rename_i hc75
                skip
                unfold w_X16_passTop_111
                try simp only [forall_eq, rII, rIJ, rIP, rJJ, rJI, rJP, rPP, rPI, rPJ, g1, g2, g3, g4, g5, g6, g7, g8, Nat.reduceEqDiff, Nat.reduceAdd, false_and, and_false, true_and, and_true, reduceIte, nZ0, nZ1, eτ43_118.1, eτ43_118.2, fun a k => (jτ43 a k).1, fun a k => (jτ43 a k).2, pτ43]
                have L114 : ∀ (fu114 : Nat) (τ114 : Sg) (v8 : Int), Rg ra jx rm τ114 → Fr ra jx rm [81, 115, 116, 119, 120] [117] σ τ114 → (PtI ra rm τ114 b A ∧ SoI ra τ114 r36 (gI σ (ra 118) v2.toNat) (gI σ (ra 118) (v2 + 1).toNat) ∧ (1 ≤ v8 ∧ v8 ≤ 10)) → ((10 - v8).toNat) < fu114 → wl_X16_passTop_114 ra jx rm (wl_X16_passTop_43 ra jx rm Q X fu43) Q X fu114 τ114 v1 v2 r36 (gI σ (jx ja 10) v1.toNat) v5 ((gJ τ43 (ra 115) (gI τ43 (ra 119) v5.toNat).toNat) / (gJ σ (jx ja 9) v1.toNat)) v8 := by
                  intro fu114
                  induction fu114 with
                  | zero => intro τ114 _ _ _ _ h9; omega
                  | succ fu114 ih114 =>
                    intro τ114 v8 rτ114 fτ114 hi114 hm114
                    unfold wl_X16_passTop_114
                    have eτ114_118 := fτ114.1 118 (by decide)
                    have jτ114 := fτ114.2.2.1
                    have pτ114 := fτ114.2.2.2
                    unfold w_X16_passTop_114
                    try simp only [forall_eq, rII, rIJ, rIP, rJJ, rJI, rJP, rPP, rPI, rPJ, g1, g2, g3, g4, g5, g6, g7, g8, Nat.reduceEqDiff, Nat.reduceAdd, false_and, and_false, true_and, and_true, reduceIte, nZ0, nZ1, eτ114_118.1, eτ114_118.2, fun a k => (jτ114 a k).1, fun a k => (jτ114 a k).2, pτ114]
                    obtain ⟨pt9, so9, hi114⟩ := hi114
                    refine ⟨ja, by exact hj, hja, ?_⟩
                    refine ⟨by (first | omega | with_reducible assumption | (unfold rng; omega) | (unfold rng; (repeat' split) <;> omega)), ?_⟩
                    split
                    · rename_i hc127
                      skip
                      unfold w_X16_passTop_357
                      try simp only [forall_eq, rII, rIJ, rIP, rJJ, rJI, rJP, rPP, rPI, rPJ, g1, g2, g3, g4, g5, g6, g7, g8, Nat.reduceEqDiff, Nat.reduceAdd, false_and, and_false, true_and, and_true, reduceIte, nZ0, nZ1, eτ114_118.1, eτ114_118.2, fun a k => (jτ114 a k).1, fun a k => (jτ114 a k).2, pτ114]
                      refine ⟨by (first | omega | with_reducible assumption | (unfold rng; omega) | (unfold rng; (repeat' split) <;> omega)), ?_⟩
                      refine ih43 _ _ ?_ ?_ ?_ ?_
                      · exact rτ114
                      · exact fτ114
                      · refine ⟨?_, ?_, ?_⟩; exact (by first | exact pt9 | exact PtI.fr (jx := jx) (K := [81, 120]) (S := []) pt9 (by repeat (first | exact Fr.rf | assumption | refine Fr.aJ g ?_ (by decide) | refine Fr.aI g ?_ (by decide) | refine Fr.sI g ?_ (by decide) | refine Fr.sJ g ?_ (by decide))) (by decide) (by decide)); exact (by first | exact so9 | exact SoI.fr (jx := jx) (rm := rm) (K := [81, 120]) (S := []) so9 (by repeat (first | exact Fr.rf | assumption | refine Fr.aJ g ?_ (by decide) | refine Fr.aI g ?_ (by decide) | refine Fr.sI g ?_ (by decide) | refine Fr.sJ g ?_ (by decide))) (by decide)); exact (by (first | omega | with_reducible assumption | (unfold rng; omega) | (unfold rng; (repeat' split) <;> omega)))
                      · (try simp only [rII, rIJ, rIP, rJJ, rJI, rJP, rPP, rPI, rPJ, g1, g2, g3, g4, g5, g6, g7, g8, Nat.reduceEqDiff, Nat.reduceAdd, false_and, and_false, true_and, and_true, reduceIte, nZ0, nZ1, eτ114_118.1, eτ114_118.2, fun a k => (jτ114 a k).1, fun a k => (jτ114 a k).2, pτ114]) <;> (first | omega | with_reducible assumption | (unfold rng; omega) | (unfold rng; (repeat' split) <;> omega))
                    · rename_i hc127
                      skip
                      unfold w_X16_passTop_130
                      try simp only [forall_eq, rII, rIJ, rIP, rJJ, rJI, rJP, rPP, rPI, rPJ, g1, g2, g3, g4, g5, g6, g7, g8, Nat.reduceEqDiff, Nat.reduceAdd, false_and, and_false, true_and, and_true, reduceIte, nZ0, nZ1, eτ114_118.1, eτ114_118.2, fun a k => (jτ114 a k).1, fun a k => (jτ114 a k).2, pτ114]
                      have rk9 := rank_le (v := v8) (by omega) (by omega) h8 (by assumption)
                      have L137 : ∀ (fu137 : Nat) (v9 : Int) (v10 : Int), (PtI ra rm τ114 b A ∧ SoI ra τ114 r36 (gI σ (ra 118) v2.toNat) (gI σ (ra 118) (v2 + 1).toNat) ∧ (0 ≤ v10 ∧ v10 ≤ r36 ∧ -1 ≤ v9 ∧ v9 < r36)) → ((r36 - v10).toNat) < fu137 → wl_X16_passTop_137 ra jx rm (wl_X16_passTop_43 ra jx rm Q X fu43) (wl_X16_passTop_114 ra jx rm (wl_X16_passTop_43 ra jx rm Q X fu43) Q X fu114) Q X fu137 τ114 v1 v2 r36 (gI σ (jx ja 10) v1.toNat) v5 ((gJ τ43 (ra 115) (gI τ43 (ra 119) v5.toNat).toNat) / (gJ σ (jx ja 9) v1.toNat)) v8 v9 v10 := by
                        intro fu137
                        induction fu137 with
                        | zero => intro  _ _ _ h9; omega
                        | succ fu137 ih137 =>
                          intro v9 v10 hi137 hm137
                          unfold wl_X16_passTop_137
                          unfold w_X16_passTop_137
                          try simp only [forall_eq, rII, rIJ, rIP, rJJ, rJI, rJP, rPP, rPI, rPJ, g1, g2, g3, g4, g5, g6, g7, g8, Nat.reduceEqDiff, Nat.reduceAdd, false_and, and_false, true_and, and_true, reduceIte, nZ0, nZ1, eτ114_118.1, eτ114_118.2, fun a k => (jτ114 a k).1, fun a k => (jτ114 a k).2, pτ114]
                          obtain ⟨pt9, so9, hi137⟩ := hi137
                          split
                          · rename_i hc140
                            skip
                            unfold w_X16_passTop_242
                            try simp only [forall_eq, rII, rIJ, rIP, rJJ, rJI, rJP, rPP, rPI, rPJ, g1, g2, g3, g4, g5, g6, g7, g8, Nat.reduceEqDiff, Nat.reduceAdd, false_and, and_false, true_and, and_true, reduceIte, nZ0, nZ1, eτ114_118.1, eτ114_118.2, fun a k => (jτ114 a k).1, fun a k => (jτ114 a k).2, pτ114]
                            split
                            · rename_i hc245
                              skip
                              unfold w_X16_passTop_351
                              try simp only [forall_eq, rII, rIJ, rIP, rJJ, rJI, rJP, rPP, rPI, rPJ, g1, g2, g3, g4, g5, g6, g7, g8, Nat.reduceEqDiff, Nat.reduceAdd, false_and, and_false, true_and, and_true, reduceIte, nZ0, nZ1, eτ114_118.1, eτ114_118.2, fun a k => (jτ114 a k).1, fun a k => (jτ114 a k).2, pτ114]
                              refine ⟨by (first | omega | with_reducible assumption | (unfold rng; omega) | (unfold rng; (repeat' split) <;> omega)), ?_⟩
                              refine ih114 _ _ ?_ ?_ ?_ ?_
                              · exact rτ114
                              · exact fτ114
                              · refine ⟨?_, ?_, ?_⟩; exact (by first | exact pt9 | exact PtI.fr (jx := jx) (K := [81, 120]) (S := []) pt9 (by repeat (first | exact Fr.rf | assumption | refine Fr.aJ g ?_ (by decide) | refine Fr.aI g ?_ (by decide) | refine Fr.sI g ?_ (by decide) | refine Fr.sJ g ?_ (by decide))) (by decide) (by decide)); exact (by first | exact so9 | exact SoI.fr (jx := jx) (rm := rm) (K := [81, 120]) (S := []) so9 (by repeat (first | exact Fr.rf | assumption | refine Fr.aJ g ?_ (by decide) | refine Fr.aI g ?_ (by decide) | refine Fr.sI g ?_ (by decide) | refine Fr.sJ g ?_ (by decide))) (by decide)); exact (by (first | omega | with_reducible assumption | (unfold rng; omega) | (unfold rng; (repeat' split) <;> omega)))
                              · (try simp only [rII, rIJ, rIP, rJJ, rJI, rJP, rPP, rPI, rPJ, g1, g2, g3, g4, g5, g6, g7, g8, Nat.reduceEqDiff, Nat.reduceAdd, false_and, and_false, true_and, and_true, reduceIte, nZ0, nZ1, eτ114_118.1, eτ114_118.2, fun a k => (jτ114 a k).1, fun a k => (jτ114 a k).2, pτ114]) <;> (first | omega | with_reducible assumption | (unfold rng; omega) | (unfold rng; (repeat' split) <;> omega))
                            · rename_i hc245
                              skip
                              unfold w_X16_passTop_248
                              try simp only [forall_eq, rII, rIJ, rIP, rJJ, rJI, rJP, rPP, rPI, rPJ, g1, g2, g3, g4, g5, g6, g7, g8, Nat.reduceEqDiff, Nat.reduceAdd, false_and, and_false, true_and, and_true, reduceIte, nZ0, nZ1, eτ114_118.1, eτ114_118.2, fun a k => (jτ114 a k).1, fun a k => (jτ114 a k).2, pτ114]
                              refine ⟨by (first | omega | with_reducible assumption | (unfold rng; omega) | (unfold rng; (repeat' split) <;> omega)), ?_⟩
                              refine ⟨by (first | omega | with_reducible assumption | (unfold rng; omega) | (unfold rng; (repeat' split) <;> omega)), ?_⟩
                              have q6 := rτ114.1 119 (v9.toNat); simp only [rgT] at q6
                              refine s_X16_load g (by refine Rg.aI g ?_ (by simp only [rgT]; first | with_reducible exact nZ_rng _ | with_reducible exact nB_rng _ | with_reducible exact wr_rng _ | with_reducible exact i32any _ | (first | omega | with_reducible assumption | (unfold rng; omega) | (unfold rng; (repeat' split) <;> omega))); exact rτ114) (by (try simp only [rII, rIJ, rIP, rJJ, rJI, rJP, rPP, rPI, rPJ, g1, g2, g3, g4, g5, g6, g7, g8, Nat.reduceEqDiff, Nat.reduceAdd, false_and, and_false, true_and, and_true, reduceIte, nZ0, nZ1, eτ114_118.1, eτ114_118.2, fun a k => (jτ114 a k).1, fun a k => (jτ114 a k).2, pτ114]) <;> (first | omega | with_reducible assumption | (unfold rng; omega) | (unfold rng; (repeat' split) <;> omega))) (fun σ41 _ rσ41 fc p7 => ?_)
                              have fσ41 : Fr ra jx rm [81, 115, 116, 119, 120] [117] σ σ41 := Fr.tr (by refine Fr.aI g ?_ (by decide); exact fτ114) (Fr.mor (fc) (by decide) (by decide))
                              have pt9 := PtI.fr (PtI.fr (jx := jx) (K := [81, 120]) (S := []) pt9 (by repeat (first | exact Fr.rf | assumption | refine Fr.aJ g ?_ (by decide) | refine Fr.aI g ?_ (by decide) | refine Fr.sI g ?_ (by decide) | refine Fr.sJ g ?_ (by decide))) (by decide) (by decide)) fc (by decide) (by decide)
                              have so9 := SoI.fr (SoI.fr (jx := jx) (rm := rm) (K := [81, 120]) (S := []) so9 (by repeat (first | exact Fr.rf | assumption | refine Fr.aJ g ?_ (by decide) | refine Fr.aI g ?_ (by decide) | refine Fr.sI g ?_ (by decide) | refine Fr.sJ g ?_ (by decide))) (by decide)) fc (by decide)
                              have eσ41_118 := fσ41.1 118 (by decide)
                              have jσ41 := fσ41.2.2.1
                              have pσ41 := fσ41.2.2.2
                              try simp only [forall_eq, rII, rIJ, rIP, rJJ, rJI, rJP, rPP, rPI, rPJ, g1, g2, g3, g4, g5, g6, g7, g8, Nat.reduceEqDiff, Nat.reduceAdd, false_and, and_false, true_and, and_true, reduceIte, nZ0, nZ1, eσ41_118.1, eσ41_118.2, fun a k => (jσ41 a k).1, fun a k => (jσ41 a k).2, pσ41]
                              refine ⟨ja, by exact hj, hja, ?_⟩
                              refine ⟨by (first | omega | with_reducible assumption | (unfold rng; omega) | (unfold rng; (repeat' split) <;> omega)), ?_⟩
                              have q8 := rσ.2.2.1 ja 6 (v2.toNat); simp only [rgJ] at q8
                              refine ⟨by (first | omega | with_reducible assumption | (unfold rng; omega) | (unfold rng; (repeat' split) <;> omega)), ?_⟩
                              refine ⟨ja, by exact hj, hja, ?_⟩
                              refine ⟨by (first | omega | with_reducible assumption | (unfold rng; omega) | (unfold rng; (repeat' split) <;> omega)), ?_⟩
                              refine ⟨by (first | omega | with_reducible assumption | (unfold rng; omega) | (unfold rng; (repeat' split) <;> omega)), ?_⟩
                              have L297 : ∀ (fu297 : Nat) (τ297 : Sg) (v10 : Int), Rg ra jx rm τ297 → Fr ra jx rm [81, 115, 116, 119, 120] [117] σ τ297 → (PtI ra rm τ297 b A ∧ SoI ra τ297 r36 (gI σ (ra 118) v2.toNat) (gI σ (ra 118) (v2 + 1).toNat) ∧ (0 ≤ v10 ∧ v10 ≤ 8)) → ((8 - v10).toNat) < fu297 → wl_X16_passTop_297 ra jx rm (wl_X16_passTop_43 ra jx rm Q X fu43) (wl_X16_passTop_114 ra jx rm (wl_X16_passTop_43 ra jx rm Q X fu43) Q X fu114) Q X fu297 τ297 v1 v2 r36 (gI σ (jx ja 10) v1.toNat) v5 ((gJ τ43 (ra 115) (gI τ43 (ra 119) v5.toNat).toNat) / (gJ σ (jx ja 9) v1.toNat)) v8 v10 := by
                                intro fu297
                                induction fu297 with
                                | zero => intro τ297 _ _ _ _ h9; omega
                                | succ fu297 ih297 =>
                                  intro τ297 v10 rτ297 fτ297 hi297 hm297
                                  unfold wl_X16_passTop_297
                                  have eτ297_118 := fτ297.1 118 (by decide)
                                  have jτ297 := fτ297.2.2.1
                                  have pτ297 := fτ297.2.2.2
                                  unfold w_X16_passTop_297
                                  try simp only [forall_eq, rII, rIJ, rIP, rJJ, rJI, rJP, rPP, rPI, rPJ, g1, g2, g3, g4, g5, g6, g7, g8, Nat.reduceEqDiff, Nat.reduceAdd, false_and, and_false, true_and, and_true, reduceIte, nZ0, nZ1, eτ297_118.1, eτ297_118.2, fun a k => (jτ297 a k).1, fun a k => (jτ297 a k).2, pτ297]
                                  obtain ⟨pt9, so9, hi297⟩ := hi297
                                  split
                                  · rename_i hc301
                                    skip
                                    unfold w_X16_passTop_318
                                    try simp only [forall_eq, rII, rIJ, rIP, rJJ, rJI, rJP, rPP, rPI, rPJ, g1, g2, g3, g4, g5, g6, g7, g8, Nat.reduceEqDiff, Nat.reduceAdd, false_and, and_false, true_and, and_true, reduceIte, nZ0, nZ1, eτ297_118.1, eτ297_118.2, fun a k => (jτ297 a k).1, fun a k => (jτ297 a k).2, pτ297]
                                    refine ⟨ja, by exact hj, hja, ?_⟩
                                    refine ⟨by (first | omega | with_reducible assumption | (unfold rng; omega) | (unfold rng; (repeat' split) <;> omega)), ?_⟩
                                    refine ⟨ja, by exact hj, hja, ?_⟩
                                    refine ⟨by (first | omega | with_reducible assumption | (unfold rng; omega) | (unfold rng; (repeat' split) <;> omega)), ?_⟩
                                    refine s2_X16_pass (b3 := (ra 81)) (n3 := 8) g rτ297 rfl (Or.inl ⟨81, rfl, by decide⟩) (by (try simp only [rII, rIJ, rIP, rJJ, rJI, rJP, rPP, rPI, rPJ, g1, g2, g3, g4, g5, g6, g7, g8, Nat.reduceEqDiff, Nat.reduceAdd, false_and, and_false, true_and, and_true, reduceIte, nZ0, nZ1, eτ297_118.1, eτ297_118.2, fun a k => (jτ297 a k).1, fun a k => (jτ297 a k).2, pτ297]) <;> (first | omega | with_reducible assumption | (unfold rng; omega) | (unfold rng; (repeat' split) <;> omega))) (by (try simp only [rII, rIJ, rIP, rJJ, rJI, rJP, rPP, rPI, rPJ, g1, g2, g3, g4, g5, g6, g7, g8, Nat.reduceEqDiff, Nat.reduceAdd, false_and, and_false, true_and, and_true, reduceIte, nZ0, nZ1, eτ297_118.1, eτ297_118.2, fun a k => (jτ297 a k).1, fun a k => (jτ297 a k).2, pτ297]) <;> (first | omega | with_reducible assumption | (unfold rng; omega) | (unfold rng; (repeat' split) <;> omega))) (by first | exact pt9 | exact PtI.fr (jx := jx) (K := [81, 120]) (S := []) pt9 (by repeat (first | exact Fr.rf | assumption | refine Fr.aJ g ?_ (by decide) | refine Fr.aI g ?_ (by decide) | refine Fr.sI g ?_ (by decide) | refine Fr.sJ g ?_ (by decide))) (by decide) (by decide)) hA (by (try simp only [rII, rIJ, rIP, rJJ, rJI, rJP, rPP, rPI, rPJ, g1, g2, g3, g4, g5, g6, g7, g8, Nat.reduceEqDiff, Nat.reduceAdd, false_and, and_false, true_and, and_true, reduceIte, nZ0, nZ1, eτ297_118.1, eτ297_118.2, fun a k => (jτ297 a k).1, fun a k => (jτ297 a k).2, pτ297]) <;> exact tm9) (fun σ47 _ rσ47 fc p9 => ?_) (fun σx E rx fx px => hX _ _ rx (Fr.tr fτ297 (Fr.mor (fx) (by decide) (by decide))) px)
                                    have fσ47 : Fr ra jx rm [81, 115, 116, 119, 120] [117] σ σ47 := Fr.tr fτ297 (Fr.mor (fc) (by decide) (by decide))
                                    have pt9 := p9.1
                                    have so9 := SoI.fr (SoI.fr (jx := jx) (rm := rm) (K := [81, 120]) (S := []) so9 (by repeat (first | exact Fr.rf | assumption | refine Fr.aJ g ?_ (by decide) | refine Fr.aI g ?_ (by decide) | refine Fr.sI g ?_ (by decide) | refine Fr.sJ g ?_ (by decide))) (by decide)) fc (by decide)
                                    have eσ47_118 := fσ47.1 118 (by decide)
                                    have jσ47 := fσ47.2.2.1
                                    have pσ47 := fσ47.2.2.2
                                    try simp only [forall_eq, rII, rIJ, rIP, rJJ, rJI, rJP, rPP, rPI, rPJ, g1, g2, g3, g4, g5, g6, g7, g8, Nat.reduceEqDiff, Nat.reduceAdd, false_and, and_false, true_and, and_true, reduceIte, nZ0, nZ1, eσ47_118.1, eσ47_118.2, fun a k => (jσ47 a k).1, fun a k => (jσ47 a k).2, pσ47]
                                    unfold w_X16_passTop_351
                                    try simp only [forall_eq, rII, rIJ, rIP, rJJ, rJI, rJP, rPP, rPI, rPJ, g1, g2, g3, g4, g5, g6, g7, g8, Nat.reduceEqDiff, Nat.reduceAdd, false_and, and_false, true_and, and_true, reduceIte, nZ0, nZ1, eσ47_118.1, eσ47_118.2, fun a k => (jσ47 a k).1, fun a k => (jσ47 a k).2, pσ47]
                                    refine ⟨by (first | omega | with_reducible assumption | (unfold rng; omega) | (unfold rng; (repeat' split) <;> omega)), ?_⟩
                                    refine ih114 _ _ ?_ ?_ ?_ ?_
                                    · exact rσ47
                                    · exact fσ47
                                    · refine ⟨?_, ?_, ?_⟩; exact (by first | exact pt9 | exact PtI.fr (jx := jx) (K := [81, 120]) (S := []) pt9 (by repeat (first | exact Fr.rf | assumption | refine Fr.aJ g ?_ (by decide) | refine Fr.aI g ?_ (by decide) | refine Fr.sI g ?_ (by decide) | refine Fr.sJ g ?_ (by decide))) (by decide) (by decide)); exact (by first | exact so9 | exact SoI.fr (jx := jx) (rm := rm) (K := [81, 120]) (S := []) so9 (by repeat (first | exact Fr.rf | assumption | refine Fr.aJ g ?_ (by decide) | refine Fr.aI g ?_ (by decide) | refine Fr.sI g ?_ (by decide) | refine Fr.sJ g ?_ (by decide))) (by decide)); exact (by (first | omega | with_reducible assumption | (unfold rng; omega) | (unfold rng; (repeat' split) <;> omega)))
                                    · (try simp only [rII, rIJ, rIP, rJJ, rJI, rJP, rPP, rPI, rPJ, g1, g2, g3, g4, g5, g6, g7, g8, Nat.reduceEqDiff, Nat.reduceAdd, false_and, and_false, true_and, and_true, reduceIte, nZ0, nZ1, eσ47_118.1, eσ47_118.2, fun a k => (jσ47 a k).1, fun a k => (jσ47 a k).2, pσ47]) <;> (first | omega | with_reducible assumption | (unfold rng; omega) | (unfold rng; (repeat' split) <;> omega))
                                  · rename_i hc301
                                    skip
                                    unfold w_X16_passTop_304
                                    try simp only [forall_eq, rII, rIJ, rIP, rJJ, rJI, rJP, rPP, rPI, rPJ, g1, g2, g3, g4, g5, g6, g7, g8, Nat.reduceEqDiff, Nat.reduceAdd, false_and, and_false, true_and, and_true, reduceIte, nZ0, nZ1, eτ297_118.1, eτ297_118.2, fun a k => (jτ297 a k).1, fun a k => (jτ297 a k).2, pτ297]
                                    refine ⟨by (first | omega | with_reducible assumption | (unfold rng; omega) | (unfold rng; (repeat' split) <;> omega)), ?_⟩
                                    refine ⟨by (first | omega | with_reducible assumption | (unfold rng; omega) | (unfold rng; (repeat' split) <;> omega)), ?_⟩
                                    refine ih297 _ _ ?_ ?_ ?_ ?_
                                    · refine Rg.aJ g ?_ (by simp only [rlT]; first | with_reducible assumption | omega | exact Int64.toInt_le _ | (rw [Int64.toInt_ofInt_of_le (by omega) (by omega)]; omega) | grind); exact rτ297
                                    · refine Fr.aJ g ?_ (by decide); exact fτ297
                                    · refine ⟨?_, ?_, ?_⟩; exact (by first | exact pt9 | exact PtI.fr (jx := jx) (K := [81, 120]) (S := []) pt9 (by repeat (first | exact Fr.rf | assumption | refine Fr.aJ g ?_ (by decide) | refine Fr.aI g ?_ (by decide) | refine Fr.sI g ?_ (by decide) | refine Fr.sJ g ?_ (by decide))) (by decide) (by decide)); exact (by first | exact so9 | exact SoI.fr (jx := jx) (rm := rm) (K := [81, 120]) (S := []) so9 (by repeat (first | exact Fr.rf | assumption | refine Fr.aJ g ?_ (by decide) | refine Fr.aI g ?_ (by decide) | refine Fr.sI g ?_ (by decide) | refine Fr.sJ g ?_ (by decide))) (by decide)); exact (by (first | omega | with_reducible assumption | (unfold rng; omega) | (unfold rng; (repeat' split) <;> omega)))
                                    · (try simp only [rII, rIJ, rIP, rJJ, rJI, rJP, rPP, rPI, rPJ, g1, g2, g3, g4, g5, g6, g7, g8, Nat.reduceEqDiff, Nat.reduceAdd, false_and, and_false, true_and, and_true, reduceIte, nZ0, nZ1, eτ297_118.1, eτ297_118.2, fun a k => (jτ297 a k).1, fun a k => (jτ297 a k).2, pτ297]) <;> (first | omega | with_reducible assumption | (unfold rng; omega) | (unfold rng; (repeat' split) <;> omega))
                              refine ⟨_, L297 _ _ _ ?_ ?_ ?_ (Nat.lt_succ_self _)⟩
                              · refine Rg.aJ g ?_ (by simp only [rlT]; first | with_reducible assumption | omega | exact Int64.toInt_le _ | (rw [Int64.toInt_ofInt_of_le (by omega) (by omega)]; omega) | grind); exact rσ41
                              · refine Fr.aJ g ?_ (by decide); exact fσ41
                              · refine ⟨?_, ?_, ?_⟩; exact (by first | exact pt9 | exact PtI.fr (jx := jx) (K := [81, 120]) (S := []) pt9 (by repeat (first | exact Fr.rf | assumption | refine Fr.aJ g ?_ (by decide) | refine Fr.aI g ?_ (by decide) | refine Fr.sI g ?_ (by decide) | refine Fr.sJ g ?_ (by decide))) (by decide) (by decide)); exact (by first | exact so9 | exact SoI.fr (jx := jx) (rm := rm) (K := [81, 120]) (S := []) so9 (by repeat (first | exact Fr.rf | assumption | refine Fr.aJ g ?_ (by decide) | refine Fr.aI g ?_ (by decide) | refine Fr.sI g ?_ (by decide) | refine Fr.sJ g ?_ (by decide))) (by decide)); exact (by (first | omega | with_reducible assumption | (unfold rng; omega) | (unfold rng; (repeat' split) <;> omega)))
                          · rename_i hc140
                            skip
                            unfold w_X16_passTop_143
                            try simp only [forall_eq, rII, rIJ, rIP, rJJ, rJI, rJP, rPP, rPI, rPJ, g1, g2, g3, g4, g5, g6, g7, g8, Nat.reduceEqDiff, Nat.reduceAdd, false_and, and_false, true_and, and_true, reduceIte, nZ0, nZ1, eτ114_118.1, eτ114_118.2, fun a k => (jτ114 a k).1, fun a k => (jτ114 a k).2, pτ114]
                            have sm7 := so9 v10.toNat (by omega)
                            refine ⟨by (first | omega | with_reducible assumption | (unfold rng; omega) | (unfold rng; (repeat' split) <;> omega)), ?_⟩
                            have q10 := rτ114.1 119 (v10.toNat); simp only [rgT] at q10
                            refine ⟨by (first | omega | with_reducible assumption | (unfold rng; omega) | (unfold rng; (repeat' split) <;> omega)), ?_⟩
                            refine ⟨ja, by exact hj, hja, ?_⟩
                            refine ⟨by (first | omega | with_reducible assumption | (unfold rng; omega) | (unfold rng; (repeat' split) <;> omega)), ?_⟩
                            refine ⟨by (first | omega | with_reducible assumption | (unfold rng; omega) | (unfold rng; (repeat' split) <;> omega)), ?_⟩
                            split
                            · rename_i hc168
                              skip
                              unfold w_X16_passTop_242
                              try simp only [forall_eq, rII, rIJ, rIP, rJJ, rJI, rJP, rPP, rPI, rPJ, g1, g2, g3, g4, g5, g6, g7, g8, Nat.reduceEqDiff, Nat.reduceAdd, false_and, and_false, true_and, and_true, reduceIte, nZ0, nZ1, eτ114_118.1, eτ114_118.2, fun a k => (jτ114 a k).1, fun a k => (jτ114 a k).2, pτ114]
                              split
                              · rename_i hc245
                                skip
                                unfold w_X16_passTop_351
                                try simp only [forall_eq, rII, rIJ, rIP, rJJ, rJI, rJP, rPP, rPI, rPJ, g1, g2, g3, g4, g5, g6, g7, g8, Nat.reduceEqDiff, Nat.reduceAdd, false_and, and_false, true_and, and_true, reduceIte, nZ0, nZ1, eτ114_118.1, eτ114_118.2, fun a k => (jτ114 a k).1, fun a k => (jτ114 a k).2, pτ114]
                                refine ⟨by (first | omega | with_reducible assumption | (unfold rng; omega) | (unfold rng; (repeat' split) <;> omega)), ?_⟩
                                refine ih114 _ _ ?_ ?_ ?_ ?_
                                · exact rτ114
                                · exact fτ114
                                · refine ⟨?_, ?_, ?_⟩; exact (by first | exact pt9 | exact PtI.fr (jx := jx) (K := [81, 120]) (S := []) pt9 (by repeat (first | exact Fr.rf | assumption | refine Fr.aJ g ?_ (by decide) | refine Fr.aI g ?_ (by decide) | refine Fr.sI g ?_ (by decide) | refine Fr.sJ g ?_ (by decide))) (by decide) (by decide)); exact (by first | exact so9 | exact SoI.fr (jx := jx) (rm := rm) (K := [81, 120]) (S := []) so9 (by repeat (first | exact Fr.rf | assumption | refine Fr.aJ g ?_ (by decide) | refine Fr.aI g ?_ (by decide) | refine Fr.sI g ?_ (by decide) | refine Fr.sJ g ?_ (by decide))) (by decide)); exact (by (first | omega | with_reducible assumption | (unfold rng; omega) | (unfold rng; (repeat' split) <;> omega)))
                                · (try simp only [rII, rIJ, rIP, rJJ, rJI, rJP, rPP, rPI, rPJ, g1, g2, g3, g4, g5, g6, g7, g8, Nat.reduceEqDiff, Nat.reduceAdd, false_and, and_false, true_and, and_true, reduceIte, nZ0, nZ1, eτ114_118.1, eτ114_118.2, fun a k => (jτ114 a k).1, fun a k => (jτ114 a k).2, pτ114]) <;> (first | omega | with_reducible assumption | (unfold rng; omega) | (unfold rng; (repeat' split) <;> omega))
                              · rename_i hc245
                                skip
                                unfold w_X16_passTop_248
                                try simp only [forall_eq, rII, rIJ, rIP, rJJ, rJI, rJP, rPP, rPI, rPJ, g1, g2, g3, g4, g5, g6, g7, g8, Nat.reduceEqDiff, Nat.reduceAdd, false_and, and_false, true_and, and_true, reduceIte, nZ0, nZ1, eτ114_118.1, eτ114_118.2, fun a k => (jτ114 a k).1, fun a k => (jτ114 a k).2, pτ114]
                                refine ⟨by (first | omega | with_reducible assumption | (unfold rng; omega) | (unfold rng; (repeat' split) <;> omega)), ?_⟩
                                refine ⟨by (first | omega | with_reducible assumption | (unfold rng; omega) | (unfold rng; (repeat' split) <;> omega)), ?_⟩
                                have q11 := rτ114.1 119 (v9.toNat); simp only [rgT] at q11
                                refine s_X16_load g (by refine Rg.aI g ?_ (by simp only [rgT]; first | with_reducible exact nZ_rng _ | with_reducible exact nB_rng _ | with_reducible exact wr_rng _ | with_reducible exact i32any _ | (first | omega | with_reducible assumption | (unfold rng; omega) | (unfold rng; (repeat' split) <;> omega))); exact rτ114) (by (try simp only [rII, rIJ, rIP, rJJ, rJI, rJP, rPP, rPI, rPJ, g1, g2, g3, g4, g5, g6, g7, g8, Nat.reduceEqDiff, Nat.reduceAdd, false_and, and_false, true_and, and_true, reduceIte, nZ0, nZ1, eτ114_118.1, eτ114_118.2, fun a k => (jτ114 a k).1, fun a k => (jτ114 a k).2, pτ114]) <;> (first | omega | with_reducible assumption | (unfold rng; omega) | (unfold rng; (repeat' split) <;> omega))) (fun σ51 _ rσ51 fc p12 => ?_)
                                have fσ51 : Fr ra jx rm [81, 115, 116, 119, 120] [117] σ σ51 := Fr.tr (by refine Fr.aI g ?_ (by decide); exact fτ114) (Fr.mor (fc) (by decide) (by decide))
                                have pt9 := PtI.fr (PtI.fr (jx := jx) (K := [81, 120]) (S := []) pt9 (by repeat (first | exact Fr.rf | assumption | refine Fr.aJ g ?_ (by decide) | refine Fr.aI g ?_ (by decide) | refine Fr.sI g ?_ (by decide) | refine Fr.sJ g ?_ (by decide))) (by decide) (by decide)) fc (by decide) (by decide)
                                have so9 := SoI.fr (SoI.fr (jx := jx) (rm := rm) (K := [81, 120]) (S := []) so9 (by repeat (first | exact Fr.rf | assumption | refine Fr.aJ g ?_ (by decide) | refine Fr.aI g ?_ (by decide) | refine Fr.sI g ?_ (by decide) | refine Fr.sJ g ?_ (by decide))) (by decide)) fc (by decide)
                                have eσ51_118 := fσ51.1 118 (by decide)
                                have jσ51 := fσ51.2.2.1
                                have pσ51 := fσ51.2.2.2
                                try simp only [forall_eq, rII, rIJ, rIP, rJJ, rJI, rJP, rPP, rPI, rPJ, g1, g2, g3, g4, g5, g6, g7, g8, Nat.reduceEqDiff, Nat.reduceAdd, false_and, and_false, true_and, and_true, reduceIte, nZ0, nZ1, eσ51_118.1, eσ51_118.2, fun a k => (jσ51 a k).1, fun a k => (jσ51 a k).2, pσ51]
                                refine ⟨ja, by exact hj, hja, ?_⟩
                                refine ⟨by (first | omega | with_reducible assumption | (unfold rng; omega) | (unfold rng; (repeat' split) <;> omega)), ?_⟩
                                have q13 := rσ.2.2.1 ja 6 (v2.toNat); simp only [rgJ] at q13
                                refine ⟨by (first | omega | with_reducible assumption | (unfold rng; omega) | (unfold rng; (repeat' split) <;> omega)), ?_⟩
                                refine ⟨ja, by exact hj, hja, ?_⟩
                                refine ⟨by (first | omega | with_reducible assumption | (unfold rng; omega) | (unfold rng; (repeat' split) <;> omega)), ?_⟩
                                refine ⟨by (first | omega | with_reducible assumption | (unfold rng; omega) | (unfold rng; (repeat' split) <;> omega)), ?_⟩
                                have L297 : ∀ (fu297 : Nat) (τ297 : Sg) (v10 : Int), Rg ra jx rm τ297 → Fr ra jx rm [81, 115, 116, 119, 120] [117] σ τ297 → (PtI ra rm τ297 b A ∧ SoI ra τ297 r36 (gI σ (ra 118) v2.toNat) (gI σ (ra 118) (v2 + 1).toNat) ∧ (0 ≤ v10 ∧ v10 ≤ 8)) → ((8 - v10).toNat) < fu297 → wl_X16_passTop_297 ra jx rm (wl_X16_passTop_43 ra jx rm Q X fu43) (wl_X16_passTop_114 ra jx rm (wl_X16_passTop_43 ra jx rm Q X fu43) Q X fu114) Q X fu297 τ297 v1 v2 r36 (gI σ (jx ja 10) v1.toNat) v5 ((gJ τ43 (ra 115) (gI τ43 (ra 119) v5.toNat).toNat) / (gJ σ (jx ja 9) v1.toNat)) v8 v10 := by
                                  intro fu297
                                  induction fu297 with
                                  | zero => intro τ297 _ _ _ _ h9; omega
                                  | succ fu297 ih297 =>
                                    intro τ297 v10 rτ297 fτ297 hi297 hm297
                                    unfold wl_X16_passTop_297
                                    have eτ297_118 := fτ297.1 118 (by decide)
                                    have jτ297 := fτ297.2.2.1
                                    have pτ297 := fτ297.2.2.2
                                    unfold w_X16_passTop_297
                                    try simp only [forall_eq, rII, rIJ, rIP, rJJ, rJI, rJP, rPP, rPI, rPJ, g1, g2, g3, g4, g5, g6, g7, g8, Nat.reduceEqDiff, Nat.reduceAdd, false_and, and_false, true_and, and_true, reduceIte, nZ0, nZ1, eτ297_118.1, eτ297_118.2, fun a k => (jτ297 a k).1, fun a k => (jτ297 a k).2, pτ297]
                                    obtain ⟨pt9, so9, hi297⟩ := hi297
                                    split
                                    · rename_i hc301
                                      skip
                                      unfold w_X16_passTop_318
                                      try simp only [forall_eq, rII, rIJ, rIP, rJJ, rJI, rJP, rPP, rPI, rPJ, g1, g2, g3, g4, g5, g6, g7, g8, Nat.reduceEqDiff, Nat.reduceAdd, false_and, and_false, true_and, and_true, reduceIte, nZ0, nZ1, eτ297_118.1, eτ297_118.2, fun a k => (jτ297 a k).1, fun a k => (jτ297 a k).2, pτ297]
                                      refine ⟨ja, by exact hj, hja, ?_⟩
                                      refine ⟨by (first | omega | with_reducible assumption | (unfold rng; omega) | (unfold rng; (repeat' split) <;> omega)), ?_⟩
                                      refine ⟨ja, by exact hj, hja, ?_⟩
                                      refine ⟨by (first | omega | with_reducible assumption | (unfold rng; omega) | (unfold rng; (repeat' split) <;> omega)), ?_⟩
                                      refine s2_X16_pass (b3 := (ra 81)) (n3 := 8) g rτ297 rfl (Or.inl ⟨81, rfl, by decide⟩) (by (try simp only [rII, rIJ, rIP, rJJ, rJI, rJP, rPP, rPI, rPJ, g1, g2, g3, g4, g5, g6, g7, g8, Nat.reduceEqDiff, Nat.reduceAdd, false_and, and_false, true_and, and_true, reduceIte, nZ0, nZ1, eτ297_118.1, eτ297_118.2, fun a k => (jτ297 a k).1, fun a k => (jτ297 a k).2, pτ297]) <;> (first | omega | with_reducible assumption | (unfold rng; omega) | (unfold rng; (repeat' split) <;> omega))) (by (try simp only [rII, rIJ, rIP, rJJ, rJI, rJP, rPP, rPI, rPJ, g1, g2, g3, g4, g5, g6, g7, g8, Nat.reduceEqDiff, Nat.reduceAdd, false_and, and_false, true_and, and_true, reduceIte, nZ0, nZ1, eτ297_118.1, eτ297_118.2, fun a k => (jτ297 a k).1, fun a k => (jτ297 a k).2, pτ297]) <;> (first | omega | with_reducible assumption | (unfold rng; omega) | (unfold rng; (repeat' split) <;> omega))) (by first | exact pt9 | exact PtI.fr (jx := jx) (K := [81, 120]) (S := []) pt9 (by repeat (first | exact Fr.rf | assumption | refine Fr.aJ g ?_ (by decide) | refine Fr.aI g ?_ (by decide) | refine Fr.sI g ?_ (by decide) | refine Fr.sJ g ?_ (by decide))) (by decide) (by decide)) hA (by (try simp only [rII, rIJ, rIP, rJJ, rJI, rJP, rPP, rPI, rPJ, g1, g2, g3, g4, g5, g6, g7, g8, Nat.reduceEqDiff, Nat.reduceAdd, false_and, and_false, true_and, and_true, reduceIte, nZ0, nZ1, eτ297_118.1, eτ297_118.2, fun a k => (jτ297 a k).1, fun a k => (jτ297 a k).2, pτ297]) <;> exact tm9) (fun σ57 _ rσ57 fc p14 => ?_) (fun σx E rx fx px => hX _ _ rx (Fr.tr fτ297 (Fr.mor (fx) (by decide) (by decide))) px)
                                      have fσ57 : Fr ra jx rm [81, 115, 116, 119, 120] [117] σ σ57 := Fr.tr fτ297 (Fr.mor (fc) (by decide) (by decide))
                                      have pt9 := p14.1
                                      have so9 := SoI.fr (SoI.fr (jx := jx) (rm := rm) (K := [81, 120]) (S := []) so9 (by repeat (first | exact Fr.rf | assumption | refine Fr.aJ g ?_ (by decide) | refine Fr.aI g ?_ (by decide) | refine Fr.sI g ?_ (by decide) | refine Fr.sJ g ?_ (by decide))) (by decide)) fc (by decide)
                                      have eσ57_118 := fσ57.1 118 (by decide)
                                      have jσ57 := fσ57.2.2.1
                                      have pσ57 := fσ57.2.2.2
                                      try simp only [forall_eq, rII, rIJ, rIP, rJJ, rJI, rJP, rPP, rPI, rPJ, g1, g2, g3, g4, g5, g6, g7, g8, Nat.reduceEqDiff, Nat.reduceAdd, false_and, and_false, true_and, and_true, reduceIte, nZ0, nZ1, eσ57_118.1, eσ57_118.2, fun a k => (jσ57 a k).1, fun a k => (jσ57 a k).2, pσ57]
                                      unfold w_X16_passTop_351
                                      try simp only [forall_eq, rII, rIJ, rIP, rJJ, rJI, rJP, rPP, rPI, rPJ, g1, g2, g3, g4, g5, g6, g7, g8, Nat.reduceEqDiff, Nat.reduceAdd, false_and, and_false, true_and, and_true, reduceIte, nZ0, nZ1, eσ57_118.1, eσ57_118.2, fun a k => (jσ57 a k).1, fun a k => (jσ57 a k).2, pσ57]
                                      refine ⟨by (first | omega | with_reducible assumption | (unfold rng; omega) | (unfold rng; (repeat' split) <;> omega)), ?_⟩
                                      refine ih114 _ _ ?_ ?_ ?_ ?_
                                      · exact rσ57
                                      · exact fσ57
                                      · refine ⟨?_, ?_, ?_⟩; exact (by first | exact pt9 | exact PtI.fr (jx := jx) (K := [81, 120]) (S := []) pt9 (by repeat (first | exact Fr.rf | assumption | refine Fr.aJ g ?_ (by decide) | refine Fr.aI g ?_ (by decide) | refine Fr.sI g ?_ (by decide) | refine Fr.sJ g ?_ (by decide))) (by decide) (by decide)); exact (by first | exact so9 | exact SoI.fr (jx := jx) (rm := rm) (K := [81, 120]) (S := []) so9 (by repeat (first | exact Fr.rf | assumption | refine Fr.aJ g ?_ (by decide) | refine Fr.aI g ?_ (by decide) | refine Fr.sI g ?_ (by decide) | refine Fr.sJ g ?_ (by decide))) (by decide)); exact (by (first | omega | with_reducible assumption | (unfold rng; omega) | (unfold rng; (repeat' split) <;> omega)))
                                      · (try simp only [rII, rIJ, rIP, rJJ, rJI, rJP, rPP, rPI, rPJ, g1, g2, g3, g4, g5, g6, g7, g8, Nat.reduceEqDiff, Nat.reduceAdd, false_and, and_false, true_and, and_true, reduceIte, nZ0, nZ1, eσ57_118.1, eσ57_118.2, fun a k => (jσ57 a k).1, fun a k => (jσ57 a k).2, pσ57]) <;> (first | omega | with_reducible assumption | (unfold rng; omega) | (unfold rng; (repeat' split) <;> omega))
                                    · rename_i hc301
                                      skip
                                      unfold w_X16_passTop_304
                                      try simp only [forall_eq, rII, rIJ, rIP, rJJ, rJI, rJP, rPP, rPI, rPJ, g1, g2, g3, g4, g5, g6, g7, g8, Nat.reduceEqDiff, Nat.reduceAdd, false_and, and_false, true_and, and_true, reduceIte, nZ0, nZ1, eτ297_118.1, eτ297_118.2, fun a k => (jτ297 a k).1, fun a k => (jτ297 a k).2, pτ297]
                                      refine ⟨by (first | omega | with_reducible assumption | (unfold rng; omega) | (unfold rng; (repeat' split) <;> omega)), ?_⟩
                                      refine ⟨by (first | omega | with_reducible assumption | (unfold rng; omega) | (unfold rng; (repeat' split) <;> omega)), ?_⟩
                                      refine ih297 _ _ ?_ ?_ ?_ ?_
                                      · refine Rg.aJ g ?_ (by simp only [rlT]; first | with_reducible assumption | omega | exact Int64.toInt_le _ | (rw [Int64.toInt_ofInt_of_le (by omega) (by omega)]; omega) | grind); exact rτ297
                                      · refine Fr.aJ g ?_ (by decide); exact fτ297
                                      · refine ⟨?_, ?_, ?_⟩; exact (by first | exact pt9 | exact PtI.fr (jx := jx) (K := [81, 120]) (S := []) pt9 (by repeat (first | exact Fr.rf | assumption | refine Fr.aJ g ?_ (by decide) | refine Fr.aI g ?_ (by decide) | refine Fr.sI g ?_ (by decide) | refine Fr.sJ g ?_ (by decide))) (by decide) (by decide)); exact (by first | exact so9 | exact SoI.fr (jx := jx) (rm := rm) (K := [81, 120]) (S := []) so9 (by repeat (first | exact Fr.rf | assumption | refine Fr.aJ g ?_ (by decide) | refine Fr.aI g ?_ (by decide) | refine Fr.sI g ?_ (by decide) | refine Fr.sJ g ?_ (by decide))) (by decide)); exact (by (first | omega | with_reducible assumption | (unfold rng; omega) | (unfold rng; (repeat' split) <;> omega)))
                                      · (try simp only [rII, rIJ, rIP, rJJ, rJI, rJP, rPP, rPI, rPJ, g1, g2, g3, g4, g5, g6, g7, g8, Nat.reduceEqDiff, Nat.reduceAdd, false_and, and_false, true_and, and_true, reduceIte, nZ0, nZ1, eτ297_118.1, eτ297_118.2, fun a k => (jτ297 a k).1, fun a k => (jτ297 a k).2, pτ297]) <;> (first | omega | with_reducible assumption | (unfold rng; omega) | (unfold rng; (repeat' split) <;> omega))
                                refine ⟨_, L297 _ _ _ ?_ ?_ ?_ (Nat.lt_succ_self _)⟩
                                · refine Rg.aJ g ?_ (by simp only [rlT]; first | with_reducible assumption | omega | exact Int64.toInt_le _ | (rw [Int64.toInt_ofInt_of_le (by omega) (by omega)]; omega) | grind); exact rσ51
                                · refine Fr.aJ g ?_ (by decide); exact fσ51
                                · refine ⟨?_, ?_, ?_⟩; exact (by first | exact pt9 | exact PtI.fr (jx := jx) (K := [81, 120]) (S := []) pt9 (by repeat (first | exact Fr.rf | assumption | refine Fr.aJ g ?_ (by decide) | refine Fr.aI g ?_ (by decide) | refine Fr.sI g ?_ (by decide) | refine Fr.sJ g ?_ (by decide))) (by decide) (by decide)); exact (by first | exact so9 | exact SoI.fr (jx := jx) (rm := rm) (K := [81, 120]) (S := []) so9 (by repeat (first | exact Fr.rf | assumption | refine Fr.aJ g ?_ (by decide) | refine Fr.aI g ?_ (by decide) | refine Fr.sI g ?_ (by decide) | refine Fr.sJ g ?_ (by decide))) (by decide)); exact (by (first | omega | with_reducible assumption | (unfold rng; omega) | (unfold rng; (repeat' split) <;> omega)))
                            · rename_i hc168
                              skip
                              unfold w_X16_passTop_171
                              try simp only [forall_eq, rII, rIJ, rIP, rJJ, rJI, rJP, rPP, rPI, rPJ, g1, g2, g3, g4, g5, g6, g7, g8, Nat.reduceEqDiff, Nat.reduceAdd, false_and, and_false, true_and, and_true, reduceIte, nZ0, nZ1, eτ114_118.1, eτ114_118.2, fun a k => (jτ114 a k).1, fun a k => (jτ114 a k).2, pτ114]
                              refine ⟨by (first | omega | with_reducible assumption | (unfold rng; omega) | (unfold rng; (repeat' split) <;> omega)), ?_⟩
                              have q15 := rτ114.1 120 (v10.toNat); simp only [rgT] at q15
                              split
                              · rename_i hc178
                                skip
                                unfold w_X16_passTop_232
                                try simp only [forall_eq, rII, rIJ, rIP, rJJ, rJI, rJP, rPP, rPI, rPJ, g1, g2, g3, g4, g5, g6, g7, g8, Nat.reduceEqDiff, Nat.reduceAdd, false_and, and_false, true_and, and_true, reduceIte, nZ0, nZ1, eτ114_118.1, eτ114_118.2, fun a k => (jτ114 a k).1, fun a k => (jτ114 a k).2, pτ114]
                                unfold w_X16_passTop_234
                                try simp only [forall_eq, rII, rIJ, rIP, rJJ, rJI, rJP, rPP, rPI, rPJ, g1, g2, g3, g4, g5, g6, g7, g8, Nat.reduceEqDiff, Nat.reduceAdd, false_and, and_false, true_and, and_true, reduceIte, nZ0, nZ1, eτ114_118.1, eτ114_118.2, fun a k => (jτ114 a k).1, fun a k => (jτ114 a k).2, pτ114]
                                refine ⟨by (first | omega | with_reducible assumption | (unfold rng; omega) | (unfold rng; (repeat' split) <;> omega)), ?_⟩
                                refine ih137 _ _ ?_ ?_
                                · refine ⟨?_, ?_, ?_⟩; exact (by first | exact pt9 | exact PtI.fr (jx := jx) (K := [81, 120]) (S := []) pt9 (by repeat (first | exact Fr.rf | assumption | refine Fr.aJ g ?_ (by decide) | refine Fr.aI g ?_ (by decide) | refine Fr.sI g ?_ (by decide) | refine Fr.sJ g ?_ (by decide))) (by decide) (by decide)); exact (by first | exact so9 | exact SoI.fr (jx := jx) (rm := rm) (K := [81, 120]) (S := []) so9 (by repeat (first | exact Fr.rf | assumption | refine Fr.aJ g ?_ (by decide) | refine Fr.aI g ?_ (by decide) | refine Fr.sI g ?_ (by decide) | refine Fr.sJ g ?_ (by decide))) (by decide)); exact (by (first | omega | with_reducible assumption | (unfold rng; omega) | (unfold rng; (repeat' split) <;> omega)))
                                · (try simp only [rII, rIJ, rIP, rJJ, rJI, rJP, rPP, rPI, rPJ, g1, g2, g3, g4, g5, g6, g7, g8, Nat.reduceEqDiff, Nat.reduceAdd, false_and, and_false, true_and, and_true, reduceIte, nZ0, nZ1, eτ114_118.1, eτ114_118.2, fun a k => (jτ114 a k).1, fun a k => (jτ114 a k).2, pτ114]) <;> (first | omega | with_reducible assumption | (unfold rng; omega) | (unfold rng; (repeat' split) <;> omega))
                              · rename_i hc178
                                skip
                                unfold w_X16_passTop_181
                                try simp only [forall_eq, rII, rIJ, rIP, rJJ, rJI, rJP, rPP, rPI, rPJ, g1, g2, g3, g4, g5, g6, g7, g8, Nat.reduceEqDiff, Nat.reduceAdd, false_and, and_false, true_and, and_true, reduceIte, nZ0, nZ1, eτ114_118.1, eτ114_118.2, fun a k => (jτ114 a k).1, fun a k => (jτ114 a k).2, pτ114]
                                split
                                · rename_i hc184
                                  skip
                                  unfold w_X16_passTop_227
                                  try simp only [forall_eq, rII, rIJ, rIP, rJJ, rJI, rJP, rPP, rPI, rPJ, g1, g2, g3, g4, g5, g6, g7, g8, Nat.reduceEqDiff, Nat.reduceAdd, false_and, and_false, true_and, and_true, reduceIte, nZ0, nZ1, eτ114_118.1, eτ114_118.2, fun a k => (jτ114 a k).1, fun a k => (jτ114 a k).2, pτ114]
                                  unfold w_X16_passTop_234
                                  try simp only [forall_eq, rII, rIJ, rIP, rJJ, rJI, rJP, rPP, rPI, rPJ, g1, g2, g3, g4, g5, g6, g7, g8, Nat.reduceEqDiff, Nat.reduceAdd, false_and, and_false, true_and, and_true, reduceIte, nZ0, nZ1, eτ114_118.1, eτ114_118.2, fun a k => (jτ114 a k).1, fun a k => (jτ114 a k).2, pτ114]
                                  refine ⟨by (first | omega | with_reducible assumption | (unfold rng; omega) | (unfold rng; (repeat' split) <;> omega)), ?_⟩
                                  refine ih137 _ _ ?_ ?_
                                  · refine ⟨?_, ?_, ?_⟩; exact (by first | exact pt9 | exact PtI.fr (jx := jx) (K := [81, 120]) (S := []) pt9 (by repeat (first | exact Fr.rf | assumption | refine Fr.aJ g ?_ (by decide) | refine Fr.aI g ?_ (by decide) | refine Fr.sI g ?_ (by decide) | refine Fr.sJ g ?_ (by decide))) (by decide) (by decide)); exact (by first | exact so9 | exact SoI.fr (jx := jx) (rm := rm) (K := [81, 120]) (S := []) so9 (by repeat (first | exact Fr.rf | assumption | refine Fr.aJ g ?_ (by decide) | refine Fr.aI g ?_ (by decide) | refine Fr.sI g ?_ (by decide) | refine Fr.sJ g ?_ (by decide))) (by decide)); exact (by (first | omega | with_reducible assumption | (unfold rng; omega) | (unfold rng; (repeat' split) <;> omega)))
                                  · (try simp only [rII, rIJ, rIP, rJJ, rJI, rJP, rPP, rPI, rPJ, g1, g2, g3, g4, g5, g6, g7, g8, Nat.reduceEqDiff, Nat.reduceAdd, false_and, and_false, true_and, and_true, reduceIte, nZ0, nZ1, eτ114_118.1, eτ114_118.2, fun a k => (jτ114 a k).1, fun a k => (jτ114 a k).2, pτ114]) <;> (first | omega | with_reducible assumption | (unfold rng; omega) | (unfold rng; (repeat' split) <;> omega))
                                · rename_i hc184
                                  skip
                                  unfold w_X16_passTop_187
                                  try simp only [forall_eq, rII, rIJ, rIP, rJJ, rJI, rJP, rPP, rPI, rPJ, g1, g2, g3, g4, g5, g6, g7, g8, Nat.reduceEqDiff, Nat.reduceAdd, false_and, and_false, true_and, and_true, reduceIte, nZ0, nZ1, eτ114_118.1, eτ114_118.2, fun a k => (jτ114 a k).1, fun a k => (jτ114 a k).2, pτ114]
                                  refine ⟨by (first | omega | with_reducible assumption | (unfold rng; omega) | (unfold rng; (repeat' split) <;> omega)), ?_⟩
                                  refine ⟨by (first | omega | with_reducible assumption | (unfold rng; omega) | (unfold rng; (repeat' split) <;> omega)), ?_⟩
                                  refine ⟨by (first | omega | with_reducible assumption | (unfold rng; omega) | (unfold rng; (repeat' split) <;> omega)), ?_⟩
                                  refine ⟨by (first | omega | with_reducible assumption | (unfold rng; omega) | (unfold rng; (repeat' split) <;> omega)), ?_⟩
                                  refine ⟨by (first | omega | with_reducible assumption | (unfold rng; omega) | (unfold rng; (repeat' split) <;> omega)), ?_⟩
                                  have q16 := rτ114.1 119 (v9.toNat); simp only [rgT] at q16
                                  refine ⟨by (first | omega | with_reducible assumption | (unfold rng; omega) | (unfold rng; (repeat' split) <;> omega)), ?_⟩
                                  refine ⟨by (first | omega | with_reducible assumption | (unfold rng; omega) | (unfold rng; (repeat' split) <;> omega)), ?_⟩
                                  refine ⟨by (first | omega | with_reducible assumption | (unfold rng; omega) | (unfold rng; (repeat' split) <;> omega)), ?_⟩
                                  split
                                  · rename_i hc224
                                    skip
                                    unfold w_X16_passTop_232
                                    try simp only [forall_eq, rII, rIJ, rIP, rJJ, rJI, rJP, rPP, rPI, rPJ, g1, g2, g3, g4, g5, g6, g7, g8, Nat.reduceEqDiff, Nat.reduceAdd, false_and, and_false, true_and, and_true, reduceIte, nZ0, nZ1, eτ114_118.1, eτ114_118.2, fun a k => (jτ114 a k).1, fun a k => (jτ114 a k).2, pτ114]
                                    unfold w_X16_passTop_234
                                    try simp only [forall_eq, rII, rIJ, rIP, rJJ, rJI, rJP, rPP, rPI, rPJ, g1, g2, g3, g4, g5, g6, g7, g8, Nat.reduceEqDiff, Nat.reduceAdd, false_and, and_false, true_and, and_true, reduceIte, nZ0, nZ1, eτ114_118.1, eτ114_118.2, fun a k => (jτ114 a k).1, fun a k => (jτ114 a k).2, pτ114]
                                    refine ⟨by (first | omega | with_reducible assumption | (unfold rng; omega) | (unfold rng; (repeat' split) <;> omega)), ?_⟩
                                    refine ih137 _ _ ?_ ?_
                                    · refine ⟨?_, ?_, ?_⟩; exact (by first | exact pt9 | exact PtI.fr (jx := jx) (K := [81, 120]) (S := []) pt9 (by repeat (first | exact Fr.rf | assumption | refine Fr.aJ g ?_ (by decide) | refine Fr.aI g ?_ (by decide) | refine Fr.sI g ?_ (by decide) | refine Fr.sJ g ?_ (by decide))) (by decide) (by decide)); exact (by first | exact so9 | exact SoI.fr (jx := jx) (rm := rm) (K := [81, 120]) (S := []) so9 (by repeat (first | exact Fr.rf | assumption | refine Fr.aJ g ?_ (by decide) | refine Fr.aI g ?_ (by decide) | refine Fr.sI g ?_ (by decide) | refine Fr.sJ g ?_ (by decide))) (by decide)); exact (by (first | omega | with_reducible assumption | (unfold rng; omega) | (unfold rng; (repeat' split) <;> omega)))
                                    · (try simp only [rII, rIJ, rIP, rJJ, rJI, rJP, rPP, rPI, rPJ, g1, g2, g3, g4, g5, g6, g7, g8, Nat.reduceEqDiff, Nat.reduceAdd, false_and, and_false, true_and, and_true, reduceIte, nZ0, nZ1, eτ114_118.1, eτ114_118.2, fun a k => (jτ114 a k).1, fun a k => (jτ114 a k).2, pτ114]) <;> (first | omega | with_reducible assumption | (unfold rng; omega) | (unfold rng; (repeat' split) <;> omega))
                                  · rename_i hc224
                                    skip
                                    unfold w_X16_passTop_227
                                    try simp only [forall_eq, rII, rIJ, rIP, rJJ, rJI, rJP, rPP, rPI, rPJ, g1, g2, g3, g4, g5, g6, g7, g8, Nat.reduceEqDiff, Nat.reduceAdd, false_and, and_false, true_and, and_true, reduceIte, nZ0, nZ1, eτ114_118.1, eτ114_118.2, fun a k => (jτ114 a k).1, fun a k => (jτ114 a k).2, pτ114]
                                    unfold w_X16_passTop_234
                                    try simp only [forall_eq, rII, rIJ, rIP, rJJ, rJI, rJP, rPP, rPI, rPJ, g1, g2, g3, g4, g5, g6, g7, g8, Nat.reduceEqDiff, Nat.reduceAdd, false_and, and_false, true_and, and_true, reduceIte, nZ0, nZ1, eτ114_118.1, eτ114_118.2, fun a k => (jτ114 a k).1, fun a k => (jτ114 a k).2, pτ114]
                                    refine ⟨by (first | omega | with_reducible assumption | (unfold rng; omega) | (unfold rng; (repeat' split) <;> omega)), ?_⟩
                                    refine ih137 _ _ ?_ ?_
                                    · refine ⟨?_, ?_, ?_⟩; exact (by first | exact pt9 | exact PtI.fr (jx := jx) (K := [81, 120]) (S := []) pt9 (by repeat (first | exact Fr.rf | assumption | refine Fr.aJ g ?_ (by decide) | refine Fr.aI g ?_ (by decide) | refine Fr.sI g ?_ (by decide) | refine Fr.sJ g ?_ (by decide))) (by decide) (by decide)); exact (by first | exact so9 | exact SoI.fr (jx := jx) (rm := rm) (K := [81, 120]) (S := []) so9 (by repeat (first | exact Fr.rf | assumption | refine Fr.aJ g ?_ (by decide) | refine Fr.aI g ?_ (by decide) | refine Fr.sI g ?_ (by decide) | refine Fr.sJ g ?_ (by decide))) (by decide)); exact (by (first | omega | with_reducible assumption | (unfold rng; omega) | (unfold rng; (repeat' split) <;> omega)))
                                    · (try simp only [rII, rIJ, rIP, rJJ, rJI, rJP, rPP, rPI, rPJ, g1, g2, g3, g4, g5, g6, g7, g8, Nat.reduceEqDiff, Nat.reduceAdd, false_and, and_false, true_and, and_true, reduceIte, nZ0, nZ1, eτ114_118.1, eτ114_118.2, fun a k => (jτ114 a k).1, fun a k => (jτ114 a k).2, pτ114]) <;> (first | omega | with_reducible assumption | (unfold rng; omega) | (unfold rng; (repeat' split) <;> omega))
                      refine ⟨_, L137 _ _ _ ?_ (Nat.lt_succ_self _)⟩
                      · refine ⟨?_, ?_, ?_⟩; exact (by first | exact pt9 | exact PtI.fr (jx := jx) (K := [81, 120]) (S := []) pt9 (by repeat (first | exact Fr.rf | assumption | refine Fr.aJ g ?_ (by decide) | refine Fr.aI g ?_ (by decide) | refine Fr.sI g ?_ (by decide) | refine Fr.sJ g ?_ (by decide))) (by decide) (by decide)); exact (by first | exact so9 | exact SoI.fr (jx := jx) (rm := rm) (K := [81, 120]) (S := []) so9 (by repeat (first | exact Fr.rf | assumption | refine Fr.aJ g ?_ (by decide) | refine Fr.aI g ?_ (by decide) | refine Fr.sI g ?_ (by decide) | refine Fr.sJ g ?_ (by decide))) (by decide)); exact (by (first | omega | with_reducible assumption | (unfold rng; omega) | (unfold rng; (repeat' split) <;> omega)))
                refine ⟨_, L114 _ _ _ ?_ ?_ ?_ (Nat.lt_succ_self _)⟩
                · exact rτ43
                · exact fτ43
                · refine ⟨?_, ?_, ?_⟩; exact (by first | exact pt9 | exact PtI.fr (jx := jx) (K := [81, 120]) (S := []) pt9 (by repeat (first | exact Fr.rf | assumption | refine Fr.aJ g ?_ (by decide) | refine Fr.aI g ?_ (by decide) | refine Fr.sI g ?_ (by decide) | refine Fr.sJ g ?_ (by decide))) (by decide) (by decide)); exact (by first | exact so9 | exact SoI.fr (jx := jx) (rm := rm) (K := [81, 120]) (S := []) so9 (by repeat (first | exact Fr.rf | assumption | refine Fr.aJ g ?_ (by decide) | refine Fr.aI g ?_ (by decide) | refine Fr.sI g ?_ (by decide) | refine Fr.sJ g ?_ (by decide))) (by decide)); exact (by (first | omega | with_reducible assumption | (unfold rng; omega) | (unfold rng; (repeat' split) <;> omega)))
              · rename_i hc75
                skip
                unfold w_X16_passTop_78
                try simp only [forall_eq, rII, rIJ, rIP, rJJ, rJI, rJP, rPP, rPI, rPJ, g1, g2, g3, g4, g5, g6, g7, g8, Nat.reduceEqDiff, Nat.reduceAdd, false_and, and_false, true_and, and_true, reduceIte, nZ0, nZ1, eτ43_118.1, eτ43_118.2, fun a k => (jτ43 a k).1, fun a k => (jτ43 a k).2, pτ43]
                have sm8 := so9 (v5 - 1).toNat (by omega)
                refine ⟨by (first | omega | with_reducible assumption | (unfold rng; omega) | (unfold rng; (repeat' split) <;> omega)), ?_⟩
                refine ⟨by (first | omega | with_reducible assumption | (unfold rng; omega) | (unfold rng; (repeat' split) <;> omega)), ?_⟩
                have q17 := rτ43.1 119 ((v5 - 1).toNat); simp only [rgT] at q17
                refine ⟨by (first | omega | with_reducible assumption | (unfold rng; omega) | (unfold rng; (repeat' split) <;> omega)), ?_⟩
                refine ⟨ja, by exact hj, hja, ?_⟩
                refine ⟨by (first | omega | with_reducible assumption | (unfold rng; omega) | (unfold rng; (repeat' split) <;> omega)), ?_⟩
                refine ⟨by (first | omega | with_reducible assumption | (unfold rng; omega) | (unfold rng; (repeat' split) <;> omega)), ?_⟩
                split
                · rename_i hc105
                  skip
                  unfold w_X16_passTop_111
                  try simp only [forall_eq, rII, rIJ, rIP, rJJ, rJI, rJP, rPP, rPI, rPJ, g1, g2, g3, g4, g5, g6, g7, g8, Nat.reduceEqDiff, Nat.reduceAdd, false_and, and_false, true_and, and_true, reduceIte, nZ0, nZ1, eτ43_118.1, eτ43_118.2, fun a k => (jτ43 a k).1, fun a k => (jτ43 a k).2, pτ43]
                  have L114 : ∀ (fu114 : Nat) (τ114 : Sg) (v8 : Int), Rg ra jx rm τ114 → Fr ra jx rm [81, 115, 116, 119, 120] [117] σ τ114 → (PtI ra rm τ114 b A ∧ SoI ra τ114 r36 (gI σ (ra 118) v2.toNat) (gI σ (ra 118) (v2 + 1).toNat) ∧ (1 ≤ v8 ∧ v8 ≤ 10)) → ((10 - v8).toNat) < fu114 → wl_X16_passTop_114 ra jx rm (wl_X16_passTop_43 ra jx rm Q X fu43) Q X fu114 τ114 v1 v2 r36 (gI σ (jx ja 10) v1.toNat) v5 ((gJ τ43 (ra 115) (gI τ43 (ra 119) v5.toNat).toNat) / (gJ σ (jx ja 9) v1.toNat)) v8 := by
                    intro fu114
                    induction fu114 with
                    | zero => intro τ114 _ _ _ _ h9; omega
                    | succ fu114 ih114 =>
                      intro τ114 v8 rτ114 fτ114 hi114 hm114
                      unfold wl_X16_passTop_114
                      have eτ114_118 := fτ114.1 118 (by decide)
                      have jτ114 := fτ114.2.2.1
                      have pτ114 := fτ114.2.2.2
                      unfold w_X16_passTop_114
                      try simp only [forall_eq, rII, rIJ, rIP, rJJ, rJI, rJP, rPP, rPI, rPJ, g1, g2, g3, g4, g5, g6, g7, g8, Nat.reduceEqDiff, Nat.reduceAdd, false_and, and_false, true_and, and_true, reduceIte, nZ0, nZ1, eτ114_118.1, eτ114_118.2, fun a k => (jτ114 a k).1, fun a k => (jτ114 a k).2, pτ114]
                      obtain ⟨pt9, so9, hi114⟩ := hi114
                      refine ⟨ja, by exact hj, hja, ?_⟩
                      refine ⟨by (first | omega | with_reducible assumption | (unfold rng; omega) | (unfold rng; (repeat' split) <;> omega)), ?_⟩
                      split
                      · rename_i hc127
                        skip
                        unfold w_X16_passTop_357
                        try simp only [forall_eq, rII, rIJ, rIP, rJJ, rJI, rJP, rPP, rPI, rPJ, g1, g2, g3, g4, g5, g6, g7, g8, Nat.reduceEqDiff, Nat.reduceAdd, false_and, and_false, true_and, and_true, reduceIte, nZ0, nZ1, eτ114_118.1, eτ114_118.2, fun a k => (jτ114 a k).1, fun a k => (jτ114 a k).2, pτ114]
                        refine ⟨by (first | omega | with_reducible assumption | (unfold rng; omega) | (unfold rng; (repeat' split) <;> omega)), ?_⟩
                        refine ih43 _ _ ?_ ?_ ?_ ?_
                        · exact rτ114
                        · exact fτ114
                        · refine ⟨?_, ?_, ?_⟩; exact (by first | exact pt9 | exact PtI.fr (jx := jx) (K := [81, 120]) (S := []) pt9 (by repeat (first | exact Fr.rf | assumption | refine Fr.aJ g ?_ (by decide) | refine Fr.aI g ?_ (by decide) | refine Fr.sI g ?_ (by decide) | refine Fr.sJ g ?_ (by decide))) (by decide) (by decide)); exact (by first | exact so9 | exact SoI.fr (jx := jx) (rm := rm) (K := [81, 120]) (S := []) so9 (by repeat (first | exact Fr.rf | assumption | refine Fr.aJ g ?_ (by decide) | refine Fr.aI g ?_ (by decide) | refine Fr.sI g ?_ (by decide) | refine Fr.sJ g ?_ (by decide))) (by decide)); exact (by (first | omega | with_reducible assumption | (unfold rng; omega) | (unfold rng; (repeat' split) <;> omega)))
                        · (try simp only [rII, rIJ, rIP, rJJ, rJI, rJP, rPP, rPI, rPJ, g1, g2, g3, g4, g5, g6, g7, g8, Nat.reduceEqDiff, Nat.reduceAdd, false_and, and_false, true_and, and_true, reduceIte, nZ0, nZ1, eτ114_118.1, eτ114_118.2, fun a k => (jτ114 a k).1, fun a k => (jτ114 a k).2, pτ114]) <;> (first | omega | with_reducible assumption | (unfold rng; omega) | (unfold rng; (repeat' split) <;> omega))
                      · rename_i hc127
                        skip
                        unfold w_X16_passTop_130
                        try simp only [forall_eq, rII, rIJ, rIP, rJJ, rJI, rJP, rPP, rPI, rPJ, g1, g2, g3, g4, g5, g6, g7, g8, Nat.reduceEqDiff, Nat.reduceAdd, false_and, and_false, true_and, and_true, reduceIte, nZ0, nZ1, eτ114_118.1, eτ114_118.2, fun a k => (jτ114 a k).1, fun a k => (jτ114 a k).2, pτ114]
                        have rk9 := rank_le (v := v8) (by omega) (by omega) h8 (by assumption)
                        have L137 : ∀ (fu137 : Nat) (v9 : Int) (v10 : Int), (PtI ra rm τ114 b A ∧ SoI ra τ114 r36 (gI σ (ra 118) v2.toNat) (gI σ (ra 118) (v2 + 1).toNat) ∧ (0 ≤ v10 ∧ v10 ≤ r36 ∧ -1 ≤ v9 ∧ v9 < r36)) → ((r36 - v10).toNat) < fu137 → wl_X16_passTop_137 ra jx rm (wl_X16_passTop_43 ra jx rm Q X fu43) (wl_X16_passTop_114 ra jx rm (wl_X16_passTop_43 ra jx rm Q X fu43) Q X fu114) Q X fu137 τ114 v1 v2 r36 (gI σ (jx ja 10) v1.toNat) v5 ((gJ τ43 (ra 115) (gI τ43 (ra 119) v5.toNat).toNat) / (gJ σ (jx ja 9) v1.toNat)) v8 v9 v10 := by
                          intro fu137
                          induction fu137 with
                          | zero => intro  _ _ _ h9; omega
                          | succ fu137 ih137 =>
                            intro v9 v10 hi137 hm137
                            unfold wl_X16_passTop_137
                            unfold w_X16_passTop_137
                            try simp only [forall_eq, rII, rIJ, rIP, rJJ, rJI, rJP, rPP, rPI, rPJ, g1, g2, g3, g4, g5, g6, g7, g8, Nat.reduceEqDiff, Nat.reduceAdd, false_and, and_false, true_and, and_true, reduceIte, nZ0, nZ1, eτ114_118.1, eτ114_118.2, fun a k => (jτ114 a k).1, fun a k => (jτ114 a k).2, pτ114]
                            obtain ⟨pt9, so9, hi137⟩ := hi137
                            split
                            · rename_i hc140
                              skip
                              unfold w_X16_passTop_242
                              try simp only [forall_eq, rII, rIJ, rIP, rJJ, rJI, rJP, rPP, rPI, rPJ, g1, g2, g3, g4, g5, g6, g7, g8, Nat.reduceEqDiff, Nat.reduceAdd, false_and, and_false, true_and, and_true, reduceIte, nZ0, nZ1, eτ114_118.1, eτ114_118.2, fun a k => (jτ114 a k).1, fun a k => (jτ114 a k).2, pτ114]
                              split
                              · rename_i hc245
                                skip
                                unfold w_X16_passTop_351
                                try simp only [forall_eq, rII, rIJ, rIP, rJJ, rJI, rJP, rPP, rPI, rPJ, g1, g2, g3, g4, g5, g6, g7, g8, Nat.reduceEqDiff, Nat.reduceAdd, false_and, and_false, true_and, and_true, reduceIte, nZ0, nZ1, eτ114_118.1, eτ114_118.2, fun a k => (jτ114 a k).1, fun a k => (jτ114 a k).2, pτ114]
                                refine ⟨by (first | omega | with_reducible assumption | (unfold rng; omega) | (unfold rng; (repeat' split) <;> omega)), ?_⟩
                                refine ih114 _ _ ?_ ?_ ?_ ?_
                                · exact rτ114
                                · exact fτ114
                                · refine ⟨?_, ?_, ?_⟩; exact (by first | exact pt9 | exact PtI.fr (jx := jx) (K := [81, 120]) (S := []) pt9 (by repeat (first | exact Fr.rf | assumption | refine Fr.aJ g ?_ (by decide) | refine Fr.aI g ?_ (by decide) | refine Fr.sI g ?_ (by decide) | refine Fr.sJ g ?_ (by decide))) (by decide) (by decide)); exact (by first | exact so9 | exact SoI.fr (jx := jx) (rm := rm) (K := [81, 120]) (S := []) so9 (by repeat (first | exact Fr.rf | assumption | refine Fr.aJ g ?_ (by decide) | refine Fr.aI g ?_ (by decide) | refine Fr.sI g ?_ (by decide) | refine Fr.sJ g ?_ (by decide))) (by decide)); exact (by (first | omega | with_reducible assumption | (unfold rng; omega) | (unfold rng; (repeat' split) <;> omega)))
                                · (try simp only [rII, rIJ, rIP, rJJ, rJI, rJP, rPP, rPI, rPJ, g1, g2, g3, g4, g5, g6, g7, g8, Nat.reduceEqDiff, Nat.reduceAdd, false_and, and_false, true_and, and_true, reduceIte, nZ0, nZ1, eτ114_118.1, eτ114_118.2, fun a k => (jτ114 a k).1, fun a k => (jτ114 a k).2, pτ114]) <;> (first | omega | with_reducible assumption | (unfold rng; omega) | (unfold rng; (repeat' split) <;> omega))
                              · rename_i hc245
                                skip
                                unfold w_X16_passTop_248
                                try simp only [forall_eq, rII, rIJ, rIP, rJJ, rJI, rJP, rPP, rPI, rPJ, g1, g2, g3, g4, g5, g6, g7, g8, Nat.reduceEqDiff, Nat.reduceAdd, false_and, and_false, true_and, and_true, reduceIte, nZ0, nZ1, eτ114_118.1, eτ114_118.2, fun a k => (jτ114 a k).1, fun a k => (jτ114 a k).2, pτ114]
                                refine ⟨by (first | omega | with_reducible assumption | (unfold rng; omega) | (unfold rng; (repeat' split) <;> omega)), ?_⟩
                                refine ⟨by (first | omega | with_reducible assumption | (unfold rng; omega) | (unfold rng; (repeat' split) <;> omega)), ?_⟩
                                have q18 := rτ114.1 119 (v9.toNat); simp only [rgT] at q18
                                refine s_X16_load g (by refine Rg.aI g ?_ (by simp only [rgT]; first | with_reducible exact nZ_rng _ | with_reducible exact nB_rng _ | with_reducible exact wr_rng _ | with_reducible exact i32any _ | (first | omega | with_reducible assumption | (unfold rng; omega) | (unfold rng; (repeat' split) <;> omega))); exact rτ114) (by (try simp only [rII, rIJ, rIP, rJJ, rJI, rJP, rPP, rPI, rPJ, g1, g2, g3, g4, g5, g6, g7, g8, Nat.reduceEqDiff, Nat.reduceAdd, false_and, and_false, true_and, and_true, reduceIte, nZ0, nZ1, eτ114_118.1, eτ114_118.2, fun a k => (jτ114 a k).1, fun a k => (jτ114 a k).2, pτ114]) <;> (first | omega | with_reducible assumption | (unfold rng; omega) | (unfold rng; (repeat' split) <;> omega))) (fun σ62 _ rσ62 fc p19 => ?_)
                                have fσ62 : Fr ra jx rm [81, 115, 116, 119, 120] [117] σ σ62 := Fr.tr (by refine Fr.aI g ?_ (by decide); exact fτ114) (Fr.mor (fc) (by decide) (by decide))
                                have pt9 := PtI.fr (PtI.fr (jx := jx) (K := [81, 120]) (S := []) pt9 (by repeat (first | exact Fr.rf | assumption | refine Fr.aJ g ?_ (by decide) | refine Fr.aI g ?_ (by decide) | refine Fr.sI g ?_ (by decide) | refine Fr.sJ g ?_ (by decide))) (by decide) (by decide)) fc (by decide) (by decide)
                                have so9 := SoI.fr (SoI.fr (jx := jx) (rm := rm) (K := [81, 120]) (S := []) so9 (by repeat (first | exact Fr.rf | assumption | refine Fr.aJ g ?_ (by decide) | refine Fr.aI g ?_ (by decide) | refine Fr.sI g ?_ (by decide) | refine Fr.sJ g ?_ (by decide))) (by decide)) fc (by decide)
                                have eσ62_118 := fσ62.1 118 (by decide)
                                have jσ62 := fσ62.2.2.1
                                have pσ62 := fσ62.2.2.2
                                try simp only [forall_eq, rII, rIJ, rIP, rJJ, rJI, rJP, rPP, rPI, rPJ, g1, g2, g3, g4, g5, g6, g7, g8, Nat.reduceEqDiff, Nat.reduceAdd, false_and, and_false, true_and, and_true, reduceIte, nZ0, nZ1, eσ62_118.1, eσ62_118.2, fun a k => (jσ62 a k).1, fun a k => (jσ62 a k).2, pσ62]
                                refine ⟨ja, by exact hj, hja, ?_⟩
                                refine ⟨by (first | omega | with_reducible assumption | (unfold rng; omega) | (unfold rng; (repeat' split) <;> omega)), ?_⟩
                                have q20 := rσ.2.2.1 ja 6 (v2.toNat); simp only [rgJ] at q20
                                refine ⟨by (first | omega | with_reducible assumption | (unfold rng; omega) | (unfold rng; (repeat' split) <;> omega)), ?_⟩
                                refine ⟨ja, by exact hj, hja, ?_⟩
                                refine ⟨by (first | omega | with_reducible assumption | (unfold rng; omega) | (unfold rng; (repeat' split) <;> omega)), ?_⟩
                                refine ⟨by (first | omega | with_reducible assumption | (unfold rng; omega) | (unfold rng; (repeat' split) <;> omega)), ?_⟩
                                have L297 : ∀ (fu297 : Nat) (τ297 : Sg) (v10 : Int), Rg ra jx rm τ297 → Fr ra jx rm [81, 115, 116, 119, 120] [117] σ τ297 → (PtI ra rm τ297 b A ∧ SoI ra τ297 r36 (gI σ (ra 118) v2.toNat) (gI σ (ra 118) (v2 + 1).toNat) ∧ (0 ≤ v10 ∧ v10 ≤ 8)) → ((8 - v10).toNat) < fu297 → wl_X16_passTop_297 ra jx rm (wl_X16_passTop_43 ra jx rm Q X fu43) (wl_X16_passTop_114 ra jx rm (wl_X16_passTop_43 ra jx rm Q X fu43) Q X fu114) Q X fu297 τ297 v1 v2 r36 (gI σ (jx ja 10) v1.toNat) v5 ((gJ τ43 (ra 115) (gI τ43 (ra 119) v5.toNat).toNat) / (gJ σ (jx ja 9) v1.toNat)) v8 v10 := by
                                  intro fu297
                                  induction fu297 with
                                  | zero => intro τ297 _ _ _ _ h9; omega
                                  | succ fu297 ih297 =>
                                    intro τ297 v10 rτ297 fτ297 hi297 hm297
                                    unfold wl_X16_passTop_297
                                    have eτ297_118 := fτ297.1 118 (by decide)
                                    have jτ297 := fτ297.2.2.1
                                    have pτ297 := fτ297.2.2.2
                                    unfold w_X16_passTop_297
                                    try simp only [forall_eq, rII, rIJ, rIP, rJJ, rJI, rJP, rPP, rPI, rPJ, g1, g2, g3, g4, g5, g6, g7, g8, Nat.reduceEqDiff, Nat.reduceAdd, false_and, and_false, true_and, and_true, reduceIte, nZ0, nZ1, eτ297_118.1, eτ297_118.2, fun a k => (jτ297 a k).1, fun a k => (jτ297 a k).2, pτ297]
                                    obtain ⟨pt9, so9, hi297⟩ := hi297
                                    split
                                    · rename_i hc301
                                      skip
                                      unfold w_X16_passTop_318
                                      try simp only [forall_eq, rII, rIJ, rIP, rJJ, rJI, rJP, rPP, rPI, rPJ, g1, g2, g3, g4, g5, g6, g7, g8, Nat.reduceEqDiff, Nat.reduceAdd, false_and, and_false, true_and, and_true, reduceIte, nZ0, nZ1, eτ297_118.1, eτ297_118.2, fun a k => (jτ297 a k).1, fun a k => (jτ297 a k).2, pτ297]
                                      refine ⟨ja, by exact hj, hja, ?_⟩
                                      refine ⟨by (first | omega | with_reducible assumption | (unfold rng; omega) | (unfold rng; (repeat' split) <;> omega)), ?_⟩
                                      refine ⟨ja, by exact hj, hja, ?_⟩
                                      refine ⟨by (first | omega | with_reducible assumption | (unfold rng; omega) | (unfold rng; (repeat' split) <;> omega)), ?_⟩
                                      refine s2_X16_pass (b3 := (ra 81)) (n3 := 8) g rτ297 rfl (Or.inl ⟨81, rfl, by decide⟩) (by (try simp only [rII, rIJ, rIP, rJJ, rJI, rJP, rPP, rPI, rPJ, g1, g2, g3, g4, g5, g6, g7, g8, Nat.reduceEqDiff, Nat.reduceAdd, false_and, and_false, true_and, and_true, reduceIte, nZ0, nZ1, eτ297_118.1, eτ297_118.2, fun a k => (jτ297 a k).1, fun a k => (jτ297 a k).2, pτ297]) <;> (first | omega | with_reducible assumption | (unfold rng; omega) | (unfold rng; (repeat' split) <;> omega))) (by (try simp only [rII, rIJ, rIP, rJJ, rJI, rJP, rPP, rPI, rPJ, g1, g2, g3, g4, g5, g6, g7, g8, Nat.reduceEqDiff, Nat.reduceAdd, false_and, and_false, true_and, and_true, reduceIte, nZ0, nZ1, eτ297_118.1, eτ297_118.2, fun a k => (jτ297 a k).1, fun a k => (jτ297 a k).2, pτ297]) <;> (first | omega | with_reducible assumption | (unfold rng; omega) | (unfold rng; (repeat' split) <;> omega))) (by first | exact pt9 | exact PtI.fr (jx := jx) (K := [81, 120]) (S := []) pt9 (by repeat (first | exact Fr.rf | assumption | refine Fr.aJ g ?_ (by decide) | refine Fr.aI g ?_ (by decide) | refine Fr.sI g ?_ (by decide) | refine Fr.sJ g ?_ (by decide))) (by decide) (by decide)) hA (by (try simp only [rII, rIJ, rIP, rJJ, rJI, rJP, rPP, rPI, rPJ, g1, g2, g3, g4, g5, g6, g7, g8, Nat.reduceEqDiff, Nat.reduceAdd, false_and, and_false, true_and, and_true, reduceIte, nZ0, nZ1, eτ297_118.1, eτ297_118.2, fun a k => (jτ297 a k).1, fun a k => (jτ297 a k).2, pτ297]) <;> exact tm9) (fun σ68 _ rσ68 fc p21 => ?_) (fun σx E rx fx px => hX _ _ rx (Fr.tr fτ297 (Fr.mor (fx) (by decide) (by decide))) px)
                                      have fσ68 : Fr ra jx rm [81, 115, 116, 119, 120] [117] σ σ68 := Fr.tr fτ297 (Fr.mor (fc) (by decide) (by decide))
                                      have pt9 := p21.1
                                      have so9 := SoI.fr (SoI.fr (jx := jx) (rm := rm) (K := [81, 120]) (S := []) so9 (by repeat (first | exact Fr.rf | assumption | refine Fr.aJ g ?_ (by decide) | refine Fr.aI g ?_ (by decide) | refine Fr.sI g ?_ (by decide) | refine Fr.sJ g ?_ (by decide))) (by decide)) fc (by decide)
                                      have eσ68_118 := fσ68.1 118 (by decide)
                                      have jσ68 := fσ68.2.2.1
                                      have pσ68 := fσ68.2.2.2
                                      try simp only [forall_eq, rII, rIJ, rIP, rJJ, rJI, rJP, rPP, rPI, rPJ, g1, g2, g3, g4, g5, g6, g7, g8, Nat.reduceEqDiff, Nat.reduceAdd, false_and, and_false, true_and, and_true, reduceIte, nZ0, nZ1, eσ68_118.1, eσ68_118.2, fun a k => (jσ68 a k).1, fun a k => (jσ68 a k).2, pσ68]
                                      unfold w_X16_passTop_351
                                      try simp only [forall_eq, rII, rIJ, rIP, rJJ, rJI, rJP, rPP, rPI, rPJ, g1, g2, g3, g4, g5, g6, g7, g8, Nat.reduceEqDiff, Nat.reduceAdd, false_and, and_false, true_and, and_true, reduceIte, nZ0, nZ1, eσ68_118.1, eσ68_118.2, fun a k => (jσ68 a k).1, fun a k => (jσ68 a k).2, pσ68]
                                      refine ⟨by (first | omega | with_reducible assumption | (unfold rng; omega) | (unfold rng; (repeat' split) <;> omega)), ?_⟩
                                      refine ih114 _ _ ?_ ?_ ?_ ?_
                                      · exact rσ68
                                      · exact fσ68
                                      · refine ⟨?_, ?_, ?_⟩; exact (by first | exact pt9 | exact PtI.fr (jx := jx) (K := [81, 120]) (S := []) pt9 (by repeat (first | exact Fr.rf | assumption | refine Fr.aJ g ?_ (by decide) | refine Fr.aI g ?_ (by decide) | refine Fr.sI g ?_ (by decide) | refine Fr.sJ g ?_ (by decide))) (by decide) (by decide)); exact (by first | exact so9 | exact SoI.fr (jx := jx) (rm := rm) (K := [81, 120]) (S := []) so9 (by repeat (first | exact Fr.rf | assumption | refine Fr.aJ g ?_ (by decide) | refine Fr.aI g ?_ (by decide) | refine Fr.sI g ?_ (by decide) | refine Fr.sJ g ?_ (by decide))) (by decide)); exact (by (first | omega | with_reducible assumption | (unfold rng; omega) | (unfold rng; (repeat' split) <;> omega)))
                                      · (try simp only [rII, rIJ, rIP, rJJ, rJI, rJP, rPP, rPI, rPJ, g1, g2, g3, g4, g5, g6, g7, g8, Nat.reduceEqDiff, Nat.reduceAdd, false_and, and_false, true_and, and_true, reduceIte, nZ0, nZ1, eσ68_118.1, eσ68_118.2, fun a k => (jσ68 a k).1, fun a k => (jσ68 a k).2, pσ68]) <;> (first | omega | with_reducible assumption | (unfold rng; omega) | (unfold rng; (repeat' split) <;> omega))
                                    · rename_i hc301
                                      skip
                                      unfold w_X16_passTop_304
                                      try simp only [forall_eq, rII, rIJ, rIP, rJJ, rJI, rJP, rPP, rPI, rPJ, g1, g2, g3, g4, g5, g6, g7, g8, Nat.reduceEqDiff, Nat.reduceAdd, false_and, and_false, true_and, and_true, reduceIte, nZ0, nZ1, eτ297_118.1, eτ297_118.2, fun a k => (jτ297 a k).1, fun a k => (jτ297 a k).2, pτ297]
                                      refine ⟨by (first | omega | with_reducible assumption | (unfold rng; omega) | (unfold rng; (repeat' split) <;> omega)), ?_⟩
                                      refine ⟨by (first | omega | with_reducible assumption | (unfold rng; omega) | (unfold rng; (repeat' split) <;> omega)), ?_⟩
                                      refine ih297 _ _ ?_ ?_ ?_ ?_
                                      · refine Rg.aJ g ?_ (by simp only [rlT]; first | with_reducible assumption | omega | exact Int64.toInt_le _ | (rw [Int64.toInt_ofInt_of_le (by omega) (by omega)]; omega) | grind); exact rτ297
                                      · refine Fr.aJ g ?_ (by decide); exact fτ297
                                      · refine ⟨?_, ?_, ?_⟩; exact (by first | exact pt9 | exact PtI.fr (jx := jx) (K := [81, 120]) (S := []) pt9 (by repeat (first | exact Fr.rf | assumption | refine Fr.aJ g ?_ (by decide) | refine Fr.aI g ?_ (by decide) | refine Fr.sI g ?_ (by decide) | refine Fr.sJ g ?_ (by decide))) (by decide) (by decide)); exact (by first | exact so9 | exact SoI.fr (jx := jx) (rm := rm) (K := [81, 120]) (S := []) so9 (by repeat (first | exact Fr.rf | assumption | refine Fr.aJ g ?_ (by decide) | refine Fr.aI g ?_ (by decide) | refine Fr.sI g ?_ (by decide) | refine Fr.sJ g ?_ (by decide))) (by decide)); exact (by (first | omega | with_reducible assumption | (unfold rng; omega) | (unfold rng; (repeat' split) <;> omega)))
                                      · (try simp only [rII, rIJ, rIP, rJJ, rJI, rJP, rPP, rPI, rPJ, g1, g2, g3, g4, g5, g6, g7, g8, Nat.reduceEqDiff, Nat.reduceAdd, false_and, and_false, true_and, and_true, reduceIte, nZ0, nZ1, eτ297_118.1, eτ297_118.2, fun a k => (jτ297 a k).1, fun a k => (jτ297 a k).2, pτ297]) <;> (first | omega | with_reducible assumption | (unfold rng; omega) | (unfold rng; (repeat' split) <;> omega))
                                refine ⟨_, L297 _ _ _ ?_ ?_ ?_ (Nat.lt_succ_self _)⟩
                                · refine Rg.aJ g ?_ (by simp only [rlT]; first | with_reducible assumption | omega | exact Int64.toInt_le _ | (rw [Int64.toInt_ofInt_of_le (by omega) (by omega)]; omega) | grind); exact rσ62
                                · refine Fr.aJ g ?_ (by decide); exact fσ62
                                · refine ⟨?_, ?_, ?_⟩; exact (by first | exact pt9 | exact PtI.fr (jx := jx) (K := [81, 120]) (S := []) pt9 (by repeat (first | exact Fr.rf | assumption | refine Fr.aJ g ?_ (by decide) | refine Fr.aI g ?_ (by decide) | refine Fr.sI g ?_ (by decide) | refine Fr.sJ g ?_ (by decide))) (by decide) (by decide)); exact (by first | exact so9 | exact SoI.fr (jx := jx) (rm := rm) (K := [81, 120]) (S := []) so9 (by repeat (first | exact Fr.rf | assumption | refine Fr.aJ g ?_ (by decide) | refine Fr.aI g ?_ (by decide) | refine Fr.sI g ?_ (by decide) | refine Fr.sJ g ?_ (by decide))) (by decide)); exact (by (first | omega | with_reducible assumption | (unfold rng; omega) | (unfold rng; (repeat' split) <;> omega)))
                            · rename_i hc140
                              skip
                              unfold w_X16_passTop_143
                              try simp only [forall_eq, rII, rIJ, rIP, rJJ, rJI, rJP, rPP, rPI, rPJ, g1, g2, g3, g4, g5, g6, g7, g8, Nat.reduceEqDiff, Nat.reduceAdd, false_and, and_false, true_and, and_true, reduceIte, nZ0, nZ1, eτ114_118.1, eτ114_118.2, fun a k => (jτ114 a k).1, fun a k => (jτ114 a k).2, pτ114]
                              have sm7 := so9 v10.toNat (by omega)
                              refine ⟨by (first | omega | with_reducible assumption | (unfold rng; omega) | (unfold rng; (repeat' split) <;> omega)), ?_⟩
                              have q22 := rτ114.1 119 (v10.toNat); simp only [rgT] at q22
                              refine ⟨by (first | omega | with_reducible assumption | (unfold rng; omega) | (unfold rng; (repeat' split) <;> omega)), ?_⟩
                              refine ⟨ja, by exact hj, hja, ?_⟩
                              refine ⟨by (first | omega | with_reducible assumption | (unfold rng; omega) | (unfold rng; (repeat' split) <;> omega)), ?_⟩
                              refine ⟨by (first | omega | with_reducible assumption | (unfold rng; omega) | (unfold rng; (repeat' split) <;> omega)), ?_⟩
                              split
                              · rename_i hc168
                                skip
                                unfold w_X16_passTop_242
                                try simp only [forall_eq, rII, rIJ, rIP, rJJ, rJI, rJP, rPP, rPI, rPJ, g1, g2, g3, g4, g5, g6, g7, g8, Nat.reduceEqDiff, Nat.reduceAdd, false_and, and_false, true_and, and_true, reduceIte, nZ0, nZ1, eτ114_118.1, eτ114_118.2, fun a k => (jτ114 a k).1, fun a k => (jτ114 a k).2, pτ114]
                                split
                                · rename_i hc245
                                  skip
                                  unfold w_X16_passTop_351
                                  try simp only [forall_eq, rII, rIJ, rIP, rJJ, rJI, rJP, rPP, rPI, rPJ, g1, g2, g3, g4, g5, g6, g7, g8, Nat.reduceEqDiff, Nat.reduceAdd, false_and, and_false, true_and, and_true, reduceIte, nZ0, nZ1, eτ114_118.1, eτ114_118.2, fun a k => (jτ114 a k).1, fun a k => (jτ114 a k).2, pτ114]
                                  refine ⟨by (first | omega | with_reducible assumption | (unfold rng; omega) | (unfold rng; (repeat' split) <;> omega)), ?_⟩
                                  refine ih114 _ _ ?_ ?_ ?_ ?_
                                  · exact rτ114
                                  · exact fτ114
                                  · refine ⟨?_, ?_, ?_⟩; exact (by first | exact pt9 | exact PtI.fr (jx := jx) (K := [81, 120]) (S := []) pt9 (by repeat (first | exact Fr.rf | assumption | refine Fr.aJ g ?_ (by decide) | refine Fr.aI g ?_ (by decide) | refine Fr.sI g ?_ (by decide) | refine Fr.sJ g ?_ (by decide))) (by decide) (by decide)); exact (by first | exact so9 | exact SoI.fr (jx := jx) (rm := rm) (K := [81, 120]) (S := []) so9 (by repeat (first | exact Fr.rf | assumption | refine Fr.aJ g ?_ (by decide) | refine Fr.aI g ?_ (by decide) | refine Fr.sI g ?_ (by decide) | refine Fr.sJ g ?_ (by decide))) (by decide)); exact (by (first | omega | with_reducible assumption | (unfold rng; omega) | (unfold rng; (repeat' split) <;> omega)))
                                  · (try simp only [rII, rIJ, rIP, rJJ, rJI, rJP, rPP, rPI, rPJ, g1, g2, g3, g4, g5, g6, g7, g8, Nat.reduceEqDiff, Nat.reduceAdd, false_and, and_false, true_and, and_true, reduceIte, nZ0, nZ1, eτ114_118.1, eτ114_118.2, fun a k => (jτ114 a k).1, fun a k => (jτ114 a k).2, pτ114]) <;> (first | omega | with_reducible assumption | (unfold rng; omega) | (unfold rng; (repeat' split) <;> omega))
                                · rename_i hc245
                                  skip
                                  unfold w_X16_passTop_248
                                  try simp only [forall_eq, rII, rIJ, rIP, rJJ, rJI, rJP, rPP, rPI, rPJ, g1, g2, g3, g4, g5, g6, g7, g8, Nat.reduceEqDiff, Nat.reduceAdd, false_and, and_false, true_and, and_true, reduceIte, nZ0, nZ1, eτ114_118.1, eτ114_118.2, fun a k => (jτ114 a k).1, fun a k => (jτ114 a k).2, pτ114]
                                  refine ⟨by (first | omega | with_reducible assumption | (unfold rng; omega) | (unfold rng; (repeat' split) <;> omega)), ?_⟩
                                  refine ⟨by (first | omega | with_reducible assumption | (unfold rng; omega) | (unfold rng; (repeat' split) <;> omega)), ?_⟩
                                  have q23 := rτ114.1 119 (v9.toNat); simp only [rgT] at q23
                                  refine s_X16_load g (by refine Rg.aI g ?_ (by simp only [rgT]; first | with_reducible exact nZ_rng _ | with_reducible exact nB_rng _ | with_reducible exact wr_rng _ | with_reducible exact i32any _ | (first | omega | with_reducible assumption | (unfold rng; omega) | (unfold rng; (repeat' split) <;> omega))); exact rτ114) (by (try simp only [rII, rIJ, rIP, rJJ, rJI, rJP, rPP, rPI, rPJ, g1, g2, g3, g4, g5, g6, g7, g8, Nat.reduceEqDiff, Nat.reduceAdd, false_and, and_false, true_and, and_true, reduceIte, nZ0, nZ1, eτ114_118.1, eτ114_118.2, fun a k => (jτ114 a k).1, fun a k => (jτ114 a k).2, pτ114]) <;> (first | omega | with_reducible assumption | (unfold rng; omega) | (unfold rng; (repeat' split) <;> omega))) (fun σ72 _ rσ72 fc p24 => ?_)
                                  have fσ72 : Fr ra jx rm [81, 115, 116, 119, 120] [117] σ σ72 := Fr.tr (by refine Fr.aI g ?_ (by decide); exact fτ114) (Fr.mor (fc) (by decide) (by decide))
                                  have pt9 := PtI.fr (PtI.fr (jx := jx) (K := [81, 120]) (S := []) pt9 (by repeat (first | exact Fr.rf | assumption | refine Fr.aJ g ?_ (by decide) | refine Fr.aI g ?_ (by decide) | refine Fr.sI g ?_ (by decide) | refine Fr.sJ g ?_ (by decide))) (by decide) (by decide)) fc (by decide) (by decide)
                                  have so9 := SoI.fr (SoI.fr (jx := jx) (rm := rm) (K := [81, 120]) (S := []) so9 (by repeat (first | exact Fr.rf | assumption | refine Fr.aJ g ?_ (by decide) | refine Fr.aI g ?_ (by decide) | refine Fr.sI g ?_ (by decide) | refine Fr.sJ g ?_ (by decide))) (by decide)) fc (by decide)
                                  have eσ72_118 := fσ72.1 118 (by decide)
                                  have jσ72 := fσ72.2.2.1
                                  have pσ72 := fσ72.2.2.2
                                  try simp only [forall_eq, rII, rIJ, rIP, rJJ, rJI, rJP, rPP, rPI, rPJ, g1, g2, g3, g4, g5, g6, g7, g8, Nat.reduceEqDiff, Nat.reduceAdd, false_and, and_false, true_and, and_true, reduceIte, nZ0, nZ1, eσ72_118.1, eσ72_118.2, fun a k => (jσ72 a k).1, fun a k => (jσ72 a k).2, pσ72]
                                  refine ⟨ja, by exact hj, hja, ?_⟩
                                  refine ⟨by (first | omega | with_reducible assumption | (unfold rng; omega) | (unfold rng; (repeat' split) <;> omega)), ?_⟩
                                  have q25 := rσ.2.2.1 ja 6 (v2.toNat); simp only [rgJ] at q25
                                  refine ⟨by (first | omega | with_reducible assumption | (unfold rng; omega) | (unfold rng; (repeat' split) <;> omega)), ?_⟩
                                  refine ⟨ja, by exact hj, hja, ?_⟩
                                  refine ⟨by (first | omega | with_reducible assumption | (unfold rng; omega) | (unfold rng; (repeat' split) <;> omega)), ?_⟩
                                  refine ⟨by (first | omega | with_reducible assumption | (unfold rng; omega) | (unfold rng; (repeat' split) <;> omega)), ?_⟩
                                  have L297 : ∀ (fu297 : Nat) (τ297 : Sg) (v10 : Int), Rg ra jx rm τ297 → Fr ra jx rm [81, 115, 116, 119, 120] [117] σ τ297 → (PtI ra rm τ297 b A ∧ SoI ra τ297 r36 (gI σ (ra 118) v2.toNat) (gI σ (ra 118) (v2 + 1).toNat) ∧ (0 ≤ v10 ∧ v10 ≤ 8)) → ((8 - v10).toNat) < fu297 → wl_X16_passTop_297 ra jx rm (wl_X16_passTop_43 ra jx rm Q X fu43) (wl_X16_passTop_114 ra jx rm (wl_X16_passTop_43 ra jx rm Q X fu43) Q X fu114) Q X fu297 τ297 v1 v2 r36 (gI σ (jx ja 10) v1.toNat) v5 ((gJ τ43 (ra 115) (gI τ43 (ra 119) v5.toNat).toNat) / (gJ σ (jx ja 9) v1.toNat)) v8 v10 := by
                                    intro fu297
                                    induction fu297 with
                                    | zero => intro τ297 _ _ _ _ h9; omega
                                    | succ fu297 ih297 =>
                                      intro τ297 v10 rτ297 fτ297 hi297 hm297
                                      unfold wl_X16_passTop_297
                                      have eτ297_118 := fτ297.1 118 (by decide)
                                      have jτ297 := fτ297.2.2.1
                                      have pτ297 := fτ297.2.2.2
                                      unfold w_X16_passTop_297
                                      try simp only [forall_eq, rII, rIJ, rIP, rJJ, rJI, rJP, rPP, rPI, rPJ, g1, g2, g3, g4, g5, g6, g7, g8, Nat.reduceEqDiff, Nat.reduceAdd, false_and, and_false, true_and, and_true, reduceIte, nZ0, nZ1, eτ297_118.1, eτ297_118.2, fun a k => (jτ297 a k).1, fun a k => (jτ297 a k).2, pτ297]
                                      obtain ⟨pt9, so9, hi297⟩ := hi297
                                      split
                                      · rename_i hc301
                                        skip
                                        unfold w_X16_passTop_318
                                        try simp only [forall_eq, rII, rIJ, rIP, rJJ, rJI, rJP, rPP, rPI, rPJ, g1, g2, g3, g4, g5, g6, g7, g8, Nat.reduceEqDiff, Nat.reduceAdd, false_and, and_false, true_and, and_true, reduceIte, nZ0, nZ1, eτ297_118.1, eτ297_118.2, fun a k => (jτ297 a k).1, fun a k => (jτ297 a k).2, pτ297]
                                        refine ⟨ja, by exact hj, hja, ?_⟩
                                        refine ⟨by (first | omega | with_reducible assumption | (unfold rng; omega) | (unfold rng; (repeat' split) <;> omega)), ?_⟩
                                        refine ⟨ja, by exact hj, hja, ?_⟩
                                        refine ⟨by (first | omega | with_reducible assumption | (unfold rng; omega) | (unfold rng; (repeat' split) <;> omega)), ?_⟩
                                        refine s2_X16_pass (b3 := (ra 81)) (n3 := 8) g rτ297 rfl (Or.inl ⟨81, rfl, by decide⟩) (by (try simp only [rII, rIJ, rIP, rJJ, rJI, rJP, rPP, rPI, rPJ, g1, g2, g3, g4, g5, g6, g7, g8, Nat.reduceEqDiff, Nat.reduceAdd, false_and, and_false, true_and, and_true, reduceIte, nZ0, nZ1, eτ297_118.1, eτ297_118.2, fun a k => (jτ297 a k).1, fun a k => (jτ297 a k).2, pτ297]) <;> (first | omega | with_reducible assumption | (unfold rng; omega) | (unfold rng; (repeat' split) <;> omega))) (by (try simp only [rII, rIJ, rIP, rJJ, rJI, rJP, rPP, rPI, rPJ, g1, g2, g3, g4, g5, g6, g7, g8, Nat.reduceEqDiff, Nat.reduceAdd, false_and, and_false, true_and, and_true, reduceIte, nZ0, nZ1, eτ297_118.1, eτ297_118.2, fun a k => (jτ297 a k).1, fun a k => (jτ297 a k).2, pτ297]) <;> (first | omega | with_reducible assumption | (unfold rng; omega) | (unfold rng; (repeat' split) <;> omega))) (by first | exact pt9 | exact PtI.fr (jx := jx) (K := [81, 120]) (S := []) pt9 (by repeat (first | exact Fr.rf | assumption | refine Fr.aJ g ?_ (by decide) | refine Fr.aI g ?_ (by decide) | refine Fr.sI g ?_ (by decide) | refine Fr.sJ g ?_ (by decide))) (by decide) (by decide)) hA (by (try simp only [rII, rIJ, rIP, rJJ, rJI, rJP, rPP, rPI, rPJ, g1, g2, g3, g4, g5, g6, g7, g8, Nat.reduceEqDiff, Nat.reduceAdd, false_and, and_false, true_and, and_true, reduceIte, nZ0, nZ1, eτ297_118.1, eτ297_118.2, fun a k => (jτ297 a k).1, fun a k => (jτ297 a k).2, pτ297]) <;> exact tm9) (fun σ78 _ rσ78 fc p26 => ?_) (fun σx E rx fx px => hX _ _ rx (Fr.tr fτ297 (Fr.mor (fx) (by decide) (by decide))) px)
                                        have fσ78 : Fr ra jx rm [81, 115, 116, 119, 120] [117] σ σ78 := Fr.tr fτ297 (Fr.mor (fc) (by decide) (by decide))
                                        have pt9 := p26.1
                                        have so9 := SoI.fr (SoI.fr (jx := jx) (rm := rm) (K := [81, 120]) (S := []) so9 (by repeat (first | exact Fr.rf | assumption | refine Fr.aJ g ?_ (by decide) | refine Fr.aI g ?_ (by decide) | refine Fr.sI g ?_ (by decide) | refine Fr.sJ g ?_ (by decide))) (by decide)) fc (by decide)
                                        have eσ78_118 := fσ78.1 118 (by decide)
                                        have jσ78 := fσ78.2.2.1
                                        have pσ78 := fσ78.2.2.2
                                        try simp only [forall_eq, rII, rIJ, rIP, rJJ, rJI, rJP, rPP, rPI, rPJ, g1, g2, g3, g4, g5, g6, g7, g8, Nat.reduceEqDiff, Nat.reduceAdd, false_and, and_false, true_and, and_true, reduceIte, nZ0, nZ1, eσ78_118.1, eσ78_118.2, fun a k => (jσ78 a k).1, fun a k => (jσ78 a k).2, pσ78]
                                        unfold w_X16_passTop_351
                                        try simp only [forall_eq, rII, rIJ, rIP, rJJ, rJI, rJP, rPP, rPI, rPJ, g1, g2, g3, g4, g5, g6, g7, g8, Nat.reduceEqDiff, Nat.reduceAdd, false_and, and_false, true_and, and_true, reduceIte, nZ0, nZ1, eσ78_118.1, eσ78_118.2, fun a k => (jσ78 a k).1, fun a k => (jσ78 a k).2, pσ78]
                                        refine ⟨by (first | omega | with_reducible assumption | (unfold rng; omega) | (unfold rng; (repeat' split) <;> omega)), ?_⟩
                                        refine ih114 _ _ ?_ ?_ ?_ ?_
                                        · exact rσ78
                                        · exact fσ78
                                        · refine ⟨?_, ?_, ?_⟩; exact (by first | exact pt9 | exact PtI.fr (jx := jx) (K := [81, 120]) (S := []) pt9 (by repeat (first | exact Fr.rf | assumption | refine Fr.aJ g ?_ (by decide) | refine Fr.aI g ?_ (by decide) | refine Fr.sI g ?_ (by decide) | refine Fr.sJ g ?_ (by decide))) (by decide) (by decide)); exact (by first | exact so9 | exact SoI.fr (jx := jx) (rm := rm) (K := [81, 120]) (S := []) so9 (by repeat (first | exact Fr.rf | assumption | refine Fr.aJ g ?_ (by decide) | refine Fr.aI g ?_ (by decide) | refine Fr.sI g ?_ (by decide) | refine Fr.sJ g ?_ (by decide))) (by decide)); exact (by (first | omega | with_reducible assumption | (unfold rng; omega) | (unfold rng; (repeat' split) <;> omega)))
                                        · (try simp only [rII, rIJ, rIP, rJJ, rJI, rJP, rPP, rPI, rPJ, g1, g2, g3, g4, g5, g6, g7, g8, Nat.reduceEqDiff, Nat.reduceAdd, false_and, and_false, true_and, and_true, reduceIte, nZ0, nZ1, eσ78_118.1, eσ78_118.2, fun a k => (jσ78 a k).1, fun a k => (jσ78 a k).2, pσ78]) <;> (first | omega | with_reducible assumption | (unfold rng; omega) | (unfold rng; (repeat' split) <;> omega))
                                      · rename_i hc301
                                        skip
                                        unfold w_X16_passTop_304
                                        try simp only [forall_eq, rII, rIJ, rIP, rJJ, rJI, rJP, rPP, rPI, rPJ, g1, g2, g3, g4, g5, g6, g7, g8, Nat.reduceEqDiff, Nat.reduceAdd, false_and, and_false, true_and, and_true, reduceIte, nZ0, nZ1, eτ297_118.1, eτ297_118.2, fun a k => (jτ297 a k).1, fun a k => (jτ297 a k).2, pτ297]
                                        refine ⟨by (first | omega | with_reducible assumption | (unfold rng; omega) | (unfold rng; (repeat' split) <;> omega)), ?_⟩
                                        refine ⟨by (first | omega | with_reducible assumption | (unfold rng; omega) | (unfold rng; (repeat' split) <;> omega)), ?_⟩
                                        refine ih297 _ _ ?_ ?_ ?_ ?_
                                        · refine Rg.aJ g ?_ (by simp only [rlT]; first | with_reducible assumption | omega | exact Int64.toInt_le _ | (rw [Int64.toInt_ofInt_of_le (by omega) (by omega)]; omega) | grind); exact rτ297
                                        · refine Fr.aJ g ?_ (by decide); exact fτ297
                                        · refine ⟨?_, ?_, ?_⟩; exact (by first | exact pt9 | exact PtI.fr (jx := jx) (K := [81, 120]) (S := []) pt9 (by repeat (first | exact Fr.rf | assumption | refine Fr.aJ g ?_ (by decide) | refine Fr.aI g ?_ (by decide) | refine Fr.sI g ?_ (by decide) | refine Fr.sJ g ?_ (by decide))) (by decide) (by decide)); exact (by first | exact so9 | exact SoI.fr (jx := jx) (rm := rm) (K := [81, 120]) (S := []) so9 (by repeat (first | exact Fr.rf | assumption | refine Fr.aJ g ?_ (by decide) | refine Fr.aI g ?_ (by decide) | refine Fr.sI g ?_ (by decide) | refine Fr.sJ g ?_ (by decide))) (by decide)); exact (by (first | omega | with_reducible assumption | (unfold rng; omega) | (unfold rng; (repeat' split) <;> omega)))
                                        · (try simp only [rII, rIJ, rIP, rJJ, rJI, rJP, rPP, rPI, rPJ, g1, g2, g3, g4, g5, g6, g7, g8, Nat.reduceEqDiff, Nat.reduceAdd, false_and, and_false, true_and, and_true, reduceIte, nZ0, nZ1, eτ297_118.1, eτ297_118.2, fun a k => (jτ297 a k).1, fun a k => (jτ297 a k).2, pτ297]) <;> (first | omega | with_reducible assumption | (unfold rng; omega) | (unfold rng; (repeat' split) <;> omega))
                                  refine ⟨_, L297 _ _ _ ?_ ?_ ?_ (Nat.lt_succ_self _)⟩
                                  · refine Rg.aJ g ?_ (by simp only [rlT]; first | with_reducible assumption | omega | exact Int64.toInt_le _ | (rw [Int64.toInt_ofInt_of_le (by omega) (by omega)]; omega) | grind); exact rσ72
                                  · refine Fr.aJ g ?_ (by decide); exact fσ72
                                  · refine ⟨?_, ?_, ?_⟩; exact (by first | exact pt9 | exact PtI.fr (jx := jx) (K := [81, 120]) (S := []) pt9 (by repeat (first | exact Fr.rf | assumption | refine Fr.aJ g ?_ (by decide) | refine Fr.aI g ?_ (by decide) | refine Fr.sI g ?_ (by decide) | refine Fr.sJ g ?_ (by decide))) (by decide) (by decide)); exact (by first | exact so9 | exact SoI.fr (jx := jx) (rm := rm) (K := [81, 120]) (S := []) so9 (by repeat (first | exact Fr.rf | assumption | refine Fr.aJ g ?_ (by decide) | refine Fr.aI g ?_ (by decide) | refine Fr.sI g ?_ (by decide) | refine Fr.sJ g ?_ (by decide))) (by decide)); exact (by (first | omega | with_reducible assumption | (unfold rng; omega) | (unfold rng; (repeat' split) <;> omega)))
                              · rename_i hc168
                                skip
                                unfold w_X16_passTop_171
                                try simp only [forall_eq, rII, rIJ, rIP, rJJ, rJI, rJP, rPP, rPI, rPJ, g1, g2, g3, g4, g5, g6, g7, g8, Nat.reduceEqDiff, Nat.reduceAdd, false_and, and_false, true_and, and_true, reduceIte, nZ0, nZ1, eτ114_118.1, eτ114_118.2, fun a k => (jτ114 a k).1, fun a k => (jτ114 a k).2, pτ114]
                                refine ⟨by (first | omega | with_reducible assumption | (unfold rng; omega) | (unfold rng; (repeat' split) <;> omega)), ?_⟩
                                have q27 := rτ114.1 120 (v10.toNat); simp only [rgT] at q27
                                split
                                · rename_i hc178
                                  skip
                                  unfold w_X16_passTop_232
                                  try simp only [forall_eq, rII, rIJ, rIP, rJJ, rJI, rJP, rPP, rPI, rPJ, g1, g2, g3, g4, g5, g6, g7, g8, Nat.reduceEqDiff, Nat.reduceAdd, false_and, and_false, true_and, and_true, reduceIte, nZ0, nZ1, eτ114_118.1, eτ114_118.2, fun a k => (jτ114 a k).1, fun a k => (jτ114 a k).2, pτ114]
                                  unfold w_X16_passTop_234
                                  try simp only [forall_eq, rII, rIJ, rIP, rJJ, rJI, rJP, rPP, rPI, rPJ, g1, g2, g3, g4, g5, g6, g7, g8, Nat.reduceEqDiff, Nat.reduceAdd, false_and, and_false, true_and, and_true, reduceIte, nZ0, nZ1, eτ114_118.1, eτ114_118.2, fun a k => (jτ114 a k).1, fun a k => (jτ114 a k).2, pτ114]
                                  refine ⟨by (first | omega | with_reducible assumption | (unfold rng; omega) | (unfold rng; (repeat' split) <;> omega)), ?_⟩
                                  refine ih137 _ _ ?_ ?_
                                  · refine ⟨?_, ?_, ?_⟩; exact (by first | exact pt9 | exact PtI.fr (jx := jx) (K := [81, 120]) (S := []) pt9 (by repeat (first | exact Fr.rf | assumption | refine Fr.aJ g ?_ (by decide) | refine Fr.aI g ?_ (by decide) | refine Fr.sI g ?_ (by decide) | refine Fr.sJ g ?_ (by decide))) (by decide) (by decide)); exact (by first | exact so9 | exact SoI.fr (jx := jx) (rm := rm) (K := [81, 120]) (S := []) so9 (by repeat (first | exact Fr.rf | assumption | refine Fr.aJ g ?_ (by decide) | refine Fr.aI g ?_ (by decide) | refine Fr.sI g ?_ (by decide) | refine Fr.sJ g ?_ (by decide))) (by decide)); exact (by (first | omega | with_reducible assumption | (unfold rng; omega) | (unfold rng; (repeat' split) <;> omega)))
                                  · (try simp only [rII, rIJ, rIP, rJJ, rJI, rJP, rPP, rPI, rPJ, g1, g2, g3, g4, g5, g6, g7, g8, Nat.reduceEqDiff, Nat.reduceAdd, false_and, and_false, true_and, and_true, reduceIte, nZ0, nZ1, eτ114_118.1, eτ114_118.2, fun a k => (jτ114 a k).1, fun a k => (jτ114 a k).2, pτ114]) <;> (first | omega | with_reducible assumption | (unfold rng; omega) | (unfold rng; (repeat' split) <;> omega))
                                · rename_i hc178
                                  skip
                                  unfold w_X16_passTop_181
                                  try simp only [forall_eq, rII, rIJ, rIP, rJJ, rJI, rJP, rPP, rPI, rPJ, g1, g2, g3, g4, g5, g6, g7, g8, Nat.reduceEqDiff, Nat.reduceAdd, false_and, and_false, true_and, and_true, reduceIte, nZ0, nZ1, eτ114_118.1, eτ114_118.2, fun a k => (jτ114 a k).1, fun a k => (jτ114 a k).2, pτ114]
                                  split
                                  · rename_i hc184
                                    skip
                                    unfold w_X16_passTop_227
                                    try simp only [forall_eq, rII, rIJ, rIP, rJJ, rJI, rJP, rPP, rPI, rPJ, g1, g2, g3, g4, g5, g6, g7, g8, Nat.reduceEqDiff, Nat.reduceAdd, false_and, and_false, true_and, and_true, reduceIte, nZ0, nZ1, eτ114_118.1, eτ114_118.2, fun a k => (jτ114 a k).1, fun a k => (jτ114 a k).2, pτ114]
                                    unfold w_X16_passTop_234
                                    try simp only [forall_eq, rII, rIJ, rIP, rJJ, rJI, rJP, rPP, rPI, rPJ, g1, g2, g3, g4, g5, g6, g7, g8, Nat.reduceEqDiff, Nat.reduceAdd, false_and, and_false, true_and, and_true, reduceIte, nZ0, nZ1, eτ114_118.1, eτ114_118.2, fun a k => (jτ114 a k).1, fun a k => (jτ114 a k).2, pτ114]
                                    refine ⟨by (first | omega | with_reducible assumption | (unfold rng; omega) | (unfold rng; (repeat' split) <;> omega)), ?_⟩
                                    refine ih137 _ _ ?_ ?_
                                    · refine ⟨?_, ?_, ?_⟩; exact (by first | exact pt9 | exact PtI.fr (jx := jx) (K := [81, 120]) (S := []) pt9 (by repeat (first | exact Fr.rf | assumption | refine Fr.aJ g ?_ (by decide) | refine Fr.aI g ?_ (by decide) | refine Fr.sI g ?_ (by decide) | refine Fr.sJ g ?_ (by decide))) (by decide) (by decide)); exact (by first | exact so9 | exact SoI.fr (jx := jx) (rm := rm) (K := [81, 120]) (S := []) so9 (by repeat (first | exact Fr.rf | assumption | refine Fr.aJ g ?_ (by decide) | refine Fr.aI g ?_ (by decide) | refine Fr.sI g ?_ (by decide) | refine Fr.sJ g ?_ (by decide))) (by decide)); exact (by (first | omega | with_reducible assumption | (unfold rng; omega) | (unfold rng; (repeat' split) <;> omega)))
                                    · (try simp only [rII, rIJ, rIP, rJJ, rJI, rJP, rPP, rPI, rPJ, g1, g2, g3, g4, g5, g6, g7, g8, Nat.reduceEqDiff, Nat.reduceAdd, false_and, and_false, true_and, and_true, reduceIte, nZ0, nZ1, eτ114_118.1, eτ114_118.2, fun a k => (jτ114 a k).1, fun a k => (jτ114 a k).2, pτ114]) <;> (first | omega | with_reducible assumption | (unfold rng; omega) | (unfold rng; (repeat' split) <;> omega))
                                  · rename_i hc184
                                    skip
                                    unfold w_X16_passTop_187
                                    try simp only [forall_eq, rII, rIJ, rIP, rJJ, rJI, rJP, rPP, rPI, rPJ, g1, g2, g3, g4, g5, g6, g7, g8, Nat.reduceEqDiff, Nat.reduceAdd, false_and, and_false, true_and, and_true, reduceIte, nZ0, nZ1, eτ114_118.1, eτ114_118.2, fun a k => (jτ114 a k).1, fun a k => (jτ114 a k).2, pτ114]
                                    refine ⟨by (first | omega | with_reducible assumption | (unfold rng; omega) | (unfold rng; (repeat' split) <;> omega)), ?_⟩
                                    refine ⟨by (first | omega | with_reducible assumption | (unfold rng; omega) | (unfold rng; (repeat' split) <;> omega)), ?_⟩
                                    refine ⟨by (first | omega | with_reducible assumption | (unfold rng; omega) | (unfold rng; (repeat' split) <;> omega)), ?_⟩
                                    refine ⟨by (first | omega | with_reducible assumption | (unfold rng; omega) | (unfold rng; (repeat' split) <;> omega)), ?_⟩
                                    refine ⟨by (first | omega | with_reducible assumption | (unfold rng; omega) | (unfold rng; (repeat' split) <;> omega)), ?_⟩
                                    have q28 := rτ114.1 119 (v9.toNat); simp only [rgT] at q28
                                    refine ⟨by (first | omega | with_reducible assumption | (unfold rng; omega) | (unfold rng; (repeat' split) <;> omega)), ?_⟩
                                    refine ⟨by (first | omega | with_reducible assumption | (unfold rng; omega) | (unfold rng; (repeat' split) <;> omega)), ?_⟩
                                    refine ⟨by (first | omega | with_reducible assumption | (unfold rng; omega) | (unfold rng; (repeat' split) <;> omega)), ?_⟩
                                    split
                                    · rename_i hc224
                                      skip
                                      unfold w_X16_passTop_232
                                      try simp only [forall_eq, rII, rIJ, rIP, rJJ, rJI, rJP, rPP, rPI, rPJ, g1, g2, g3, g4, g5, g6, g7, g8, Nat.reduceEqDiff, Nat.reduceAdd, false_and, and_false, true_and, and_true, reduceIte, nZ0, nZ1, eτ114_118.1, eτ114_118.2, fun a k => (jτ114 a k).1, fun a k => (jτ114 a k).2, pτ114]
                                      unfold w_X16_passTop_234
                                      try simp only [forall_eq, rII, rIJ, rIP, rJJ, rJI, rJP, rPP, rPI, rPJ, g1, g2, g3, g4, g5, g6, g7, g8, Nat.reduceEqDiff, Nat.reduceAdd, false_and, and_false, true_and, and_true, reduceIte, nZ0, nZ1, eτ114_118.1, eτ114_118.2, fun a k => (jτ114 a k).1, fun a k => (jτ114 a k).2, pτ114]
                                      refine ⟨by (first | omega | with_reducible assumption | (unfold rng; omega) | (unfold rng; (repeat' split) <;> omega)), ?_⟩
                                      refine ih137 _ _ ?_ ?_
                                      · refine ⟨?_, ?_, ?_⟩; exact (by first | exact pt9 | exact PtI.fr (jx := jx) (K := [81, 120]) (S := []) pt9 (by repeat (first | exact Fr.rf | assumption | refine Fr.aJ g ?_ (by decide) | refine Fr.aI g ?_ (by decide) | refine Fr.sI g ?_ (by decide) | refine Fr.sJ g ?_ (by decide))) (by decide) (by decide)); exact (by first | exact so9 | exact SoI.fr (jx := jx) (rm := rm) (K := [81, 120]) (S := []) so9 (by repeat (first | exact Fr.rf | assumption | refine Fr.aJ g ?_ (by decide) | refine Fr.aI g ?_ (by decide) | refine Fr.sI g ?_ (by decide) | refine Fr.sJ g ?_ (by decide))) (by decide)); exact (by (first | omega | with_reducible assumption | (unfold rng; omega) | (unfold rng; (repeat' split) <;> omega)))
                                      · (try simp only [rII, rIJ, rIP, rJJ, rJI, rJP, rPP, rPI, rPJ, g1, g2, g3, g4, g5, g6, g7, g8, Nat.reduceEqDiff, Nat.reduceAdd, false_and, and_false, true_and, and_true, reduceIte, nZ0, nZ1, eτ114_118.1, eτ114_118.2, fun a k => (jτ114 a k).1, fun a k => (jτ114 a k).2, pτ114]) <;> (first | omega | with_reducible assumption | (unfold rng; omega) | (unfold rng; (repeat' split) <;> omega))
                                    · rename_i hc224
                                      skip
                                      unfold w_X16_passTop_227
                                      try simp only [forall_eq, rII, rIJ, rIP, rJJ, rJI, rJP, rPP, rPI, rPJ, g1, g2, g3, g4, g5, g6, g7, g8, Nat.reduceEqDiff, Nat.reduceAdd, false_and, and_false, true_and, and_true, reduceIte, nZ0, nZ1, eτ114_118.1, eτ114_118.2, fun a k => (jτ114 a k).1, fun a k => (jτ114 a k).2, pτ114]
                                      unfold w_X16_passTop_234
                                      try simp only [forall_eq, rII, rIJ, rIP, rJJ, rJI, rJP, rPP, rPI, rPJ, g1, g2, g3, g4, g5, g6, g7, g8, Nat.reduceEqDiff, Nat.reduceAdd, false_and, and_false, true_and, and_true, reduceIte, nZ0, nZ1, eτ114_118.1, eτ114_118.2, fun a k => (jτ114 a k).1, fun a k => (jτ114 a k).2, pτ114]
                                      refine ⟨by (first | omega | with_reducible assumption | (unfold rng; omega) | (unfold rng; (repeat' split) <;> omega)), ?_⟩
                                      refine ih137 _ _ ?_ ?_
                                      · refine ⟨?_, ?_, ?_⟩; exact (by first | exact pt9 | exact PtI.fr (jx := jx) (K := [81, 120]) (S := []) pt9 (by repeat (first | exact Fr.rf | assumption | refine Fr.aJ g ?_ (by decide) | refine Fr.aI g ?_ (by decide) | refine Fr.sI g ?_ (by decide) | refine Fr.sJ g ?_ (by decide))) (by decide) (by decide)); exact (by first | exact so9 | exact SoI.fr (jx := jx) (rm := rm) (K := [81, 120]) (S := []) so9 (by repeat (first | exact Fr.rf | assumption | refine Fr.aJ g ?_ (by decide) | refine Fr.aI g ?_ (by decide) | refine Fr.sI g ?_ (by decide) | refine Fr.sJ g ?_ (by decide))) (by decide)); exact (by (first | omega | with_reducible assumption | (unfold rng; omega) | (unfold rng; (repeat' split) <;> omega)))
                                      · (try simp only [rII, rIJ, rIP, rJJ, rJI, rJP, rPP, rPI, rPJ, g1, g2, g3, g4, g5, g6, g7, g8, Nat.reduceEqDiff, Nat.reduceAdd, false_and, and_false, true_and, and_true, reduceIte, nZ0, nZ1, eτ114_118.1, eτ114_118.2, fun a k => (jτ114 a k).1, fun a k => (jτ114 a k).2, pτ114]) <;> (first | omega | with_reducible assumption | (unfold rng; omega) | (unfold rng; (repeat' split) <;> omega))
                        refine ⟨_, L137 _ _ _ ?_ (Nat.lt_succ_self _)⟩
                        · refine ⟨?_, ?_, ?_⟩; exact (by first | exact pt9 | exact PtI.fr (jx := jx) (K := [81, 120]) (S := []) pt9 (by repeat (first | exact Fr.rf | assumption | refine Fr.aJ g ?_ (by decide) | refine Fr.aI g ?_ (by decide) | refine Fr.sI g ?_ (by decide) | refine Fr.sJ g ?_ (by decide))) (by decide) (by decide)); exact (by first | exact so9 | exact SoI.fr (jx := jx) (rm := rm) (K := [81, 120]) (S := []) so9 (by repeat (first | exact Fr.rf | assumption | refine Fr.aJ g ?_ (by decide) | refine Fr.aI g ?_ (by decide) | refine Fr.sI g ?_ (by decide) | refine Fr.sJ g ?_ (by decide))) (by decide)); exact (by (first | omega | with_reducible assumption | (unfold rng; omega) | (unfold rng; (repeat' split) <;> omega)))
                  refine ⟨_, L114 _ _ _ ?_ ?_ ?_ (Nat.lt_succ_self _)⟩
                  · exact rτ43
                  · exact fτ43
                  · refine ⟨?_, ?_, ?_⟩; exact (by first | exact pt9 | exact PtI.fr (jx := jx) (K := [81, 120]) (S := []) pt9 (by repeat (first | exact Fr.rf | assumption | refine Fr.aJ g ?_ (by decide) | refine Fr.aI g ?_ (by decide) | refine Fr.sI g ?_ (by decide) | refine Fr.sJ g ?_ (by decide))) (by decide) (by decide)); exact (by first | exact so9 | exact SoI.fr (jx := jx) (rm := rm) (K := [81, 120]) (S := []) so9 (by repeat (first | exact Fr.rf | assumption | refine Fr.aJ g ?_ (by decide) | refine Fr.aI g ?_ (by decide) | refine Fr.sI g ?_ (by decide) | refine Fr.sJ g ?_ (by decide))) (by decide)); exact (by (first | omega | with_reducible assumption | (unfold rng; omega) | (unfold rng; (repeat' split) <;> omega)))
                · rename_i hc105
                  skip
                  unfold w_X16_passTop_108
                  try simp only [forall_eq, rII, rIJ, rIP, rJJ, rJI, rJP, rPP, rPI, rPJ, g1, g2, g3, g4, g5, g6, g7, g8, Nat.reduceEqDiff, Nat.reduceAdd, false_and, and_false, true_and, and_true, reduceIte, nZ0, nZ1, eτ43_118.1, eτ43_118.2, fun a k => (jτ43 a k).1, fun a k => (jτ43 a k).2, pτ43]
                  unfold w_X16_passTop_357
                  try simp only [forall_eq, rII, rIJ, rIP, rJJ, rJI, rJP, rPP, rPI, rPJ, g1, g2, g3, g4, g5, g6, g7, g8, Nat.reduceEqDiff, Nat.reduceAdd, false_and, and_false, true_and, and_true, reduceIte, nZ0, nZ1, eτ43_118.1, eτ43_118.2, fun a k => (jτ43 a k).1, fun a k => (jτ43 a k).2, pτ43]
                  refine ⟨by (first | omega | with_reducible assumption | (unfold rng; omega) | (unfold rng; (repeat' split) <;> omega)), ?_⟩
                  refine ih43 _ _ ?_ ?_ ?_ ?_
                  · exact rτ43
                  · exact fτ43
                  · refine ⟨?_, ?_, ?_⟩; exact (by first | exact pt9 | exact PtI.fr (jx := jx) (K := [81, 120]) (S := []) pt9 (by repeat (first | exact Fr.rf | assumption | refine Fr.aJ g ?_ (by decide) | refine Fr.aI g ?_ (by decide) | refine Fr.sI g ?_ (by decide) | refine Fr.sJ g ?_ (by decide))) (by decide) (by decide)); exact (by first | exact so9 | exact SoI.fr (jx := jx) (rm := rm) (K := [81, 120]) (S := []) so9 (by repeat (first | exact Fr.rf | assumption | refine Fr.aJ g ?_ (by decide) | refine Fr.aI g ?_ (by decide) | refine Fr.sI g ?_ (by decide) | refine Fr.sJ g ?_ (by decide))) (by decide)); exact (by (first | omega | with_reducible assumption | (unfold rng; omega) | (unfold rng; (repeat' split) <;> omega)))
                  · (try simp only [rII, rIJ, rIP, rJJ, rJI, rJP, rPP, rPI, rPJ, g1, g2, g3, g4, g5, g6, g7, g8, Nat.reduceEqDiff, Nat.reduceAdd, false_and, and_false, true_and, and_true, reduceIte, nZ0, nZ1, eτ43_118.1, eτ43_118.2, fun a k => (jτ43 a k).1, fun a k => (jτ43 a k).2, pτ43]) <;> (first | omega | with_reducible assumption | (unfold rng; omega) | (unfold rng; (repeat' split) <;> omega))
        refine ⟨_, L43 _ _ _ ?_ ?_ ?_ (Nat.lt_succ_self _)⟩
        · exact rτ20
        · exact fτ20
        · refine ⟨?_, ?_, ?_⟩; exact (by first | exact pt9 | exact PtI.fr (jx := jx) (K := [81, 120]) (S := []) pt9 (by repeat (first | exact Fr.rf | assumption | refine Fr.aJ g ?_ (by decide) | refine Fr.aI g ?_ (by decide) | refine Fr.sI g ?_ (by decide) | refine Fr.sJ g ?_ (by decide))) (by decide) (by decide)); exact (by first | exact so9 | exact SoI.fr (jx := jx) (rm := rm) (K := [81, 120]) (S := []) so9 (by repeat (first | exact Fr.rf | assumption | refine Fr.aJ g ?_ (by decide) | refine Fr.aI g ?_ (by decide) | refine Fr.sI g ?_ (by decide) | refine Fr.sJ g ?_ (by decide))) (by decide)); exact (by (first | omega | with_reducible assumption | (unfold rng; omega) | (unfold rng; (repeat' split) <;> omega)))
      · rename_i hc23
        skip
        unfold w_X16_passTop_26
        try simp only [forall_eq, rII, rIJ, rIP, rJJ, rJI, rJP, rPP, rPI, rPJ, g1, g2, g3, g4, g5, g6, g7, g8, Nat.reduceEqDiff, Nat.reduceAdd, false_and, and_false, true_and, and_true, reduceIte, nZ0, nZ1, eτ20_118.1, eτ20_118.2, fun a k => (jτ20 a k).1, fun a k => (jτ20 a k).2, pτ20]
        refine ⟨by (first | omega | with_reducible assumption | (unfold rng; omega) | (unfold rng; (repeat' split) <;> omega)), ?_⟩
        refine ⟨by (first | omega | with_reducible assumption | (unfold rng; omega) | (unfold rng; (repeat' split) <;> omega)), ?_⟩
        refine ih20 _ _ ?_ ?_ ?_ ?_
        · refine Rg.aI g ?_ (by simp only [rgT]; first | with_reducible exact nZ_rng _ | with_reducible exact nB_rng _ | with_reducible exact wr_rng _ | with_reducible exact i32any _ | (first | omega | with_reducible assumption | (unfold rng; omega) | (unfold rng; (repeat' split) <;> omega))); exact rτ20
        · refine Fr.aI g ?_ (by decide); exact fτ20
        · refine ⟨?_, ?_, ?_⟩; exact (by first | exact pt9 | exact PtI.fr (jx := jx) (K := [81, 120]) (S := []) pt9 (by repeat (first | exact Fr.rf | assumption | refine Fr.aJ g ?_ (by decide) | refine Fr.aI g ?_ (by decide) | refine Fr.sI g ?_ (by decide) | refine Fr.sJ g ?_ (by decide))) (by decide) (by decide)); exact (by first | exact so9 | exact SoI.fr (jx := jx) (rm := rm) (K := [81, 120]) (S := []) so9 (by repeat (first | exact Fr.rf | assumption | refine Fr.aJ g ?_ (by decide) | refine Fr.aI g ?_ (by decide) | refine Fr.sI g ?_ (by decide) | refine Fr.sJ g ?_ (by decide))) (by decide)); exact (by (first | omega | with_reducible assumption | (unfold rng; omega) | (unfold rng; (repeat' split) <;> omega)))
        · (try simp only [rII, rIJ, rIP, rJJ, rJI, rJP, rPP, rPI, rPJ, g1, g2, g3, g4, g5, g6, g7, g8, Nat.reduceEqDiff, Nat.reduceAdd, false_and, and_false, true_and, and_true, reduceIte, nZ0, nZ1, eτ20_118.1, eτ20_118.2, fun a k => (jτ20 a k).1, fun a k => (jτ20 a k).2, pτ20]) <;> (first | omega | with_reducible assumption | (unfold rng; omega) | (unfold rng; (repeat' split) <;> omega))
  refine ⟨_, L20 _ _ _ ?_ ?_ ?_ (Nat.lt_succ_self _)⟩
  · exact rσ35
  · exact fσ35
  · refine ⟨?_, ?_, ?_⟩; exact (by first | exact pt9 | exact PtI.fr (jx := jx) (K := [81, 120]) (S := []) pt9 (by repeat (first | exact Fr.rf | assumption | refine Fr.aJ g ?_ (by decide) | refine Fr.aI g ?_ (by decide) | refine Fr.sI g ?_ (by decide) | refine Fr.sJ g ?_ (by decide))) (by decide) (by decide)); exact (by first | exact so9 | exact SoI.fr (jx := jx) (rm := rm) (K := [81, 120]) (S := []) so9 (by repeat (first | exact Fr.rf | assumption | refine Fr.aJ g ?_ (by decide) | refine Fr.aI g ?_ (by decide) | refine Fr.sI g ?_ (by decide) | refine Fr.sJ g ?_ (by decide))) (by decide)); exact (by (first | omega | with_reducible assumption | (unfold rng; omega) | (unfold rng; (repeat' split) <;> omega)))


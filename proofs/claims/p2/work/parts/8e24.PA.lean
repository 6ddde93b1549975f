set_option maxHeartbeats 2000000 in
theorem s_X16_growJoin {ra : Nat → Nat} {jx : Nat → Nat → Nat} {rm : Nat} {ja : Nat} (g : Geo ra jx rm) {σ : Sg} {v1 : Int} {v2 : Int} {v3 : Int64} (rσ : Rg ra jx rm σ) (hj : gP σ rm 17 = some ja) (hja : ja = ra 15 ∨ ja = ra 16) (hre : RecE ra jx rm ja σ) (h1 : 0 ≤ v1 ∧ v1 < 64) (h2 : 0 ≤ v2 ∧ v2 < 16) {Q : Sg → Unit → Prop} {X : Sg → String → Prop} (hQ : ∀ (σ' : Sg) (r : Unit), Rg ra jx rm σ' → Fr ra jx rm [75, 76, 77, 78] [79, 80] σ σ' → (RecE ra jx rm ja σ') → Q σ' r) : wp_X16_growJoin ra jx rm v1 v2 v3 σ Q X := by
  obtain ⟨g1, g2, g3, g4, g5, g6, g7, g8⟩ := id g
  have fσ : Fr ra jx rm [75, 76, 77, 78] [79, 80] σ σ := Fr.rf
  obtain ⟨own0, ps0, hr0, hm0⟩ := id hre
  unfold wp_X16_growJoin
  unfold w_X16_growJoin_0
  try simp only [forall_eq, rII, rIJ, rIP, rJJ, rJI, rJP, rPP, rPI, rPJ, g1, g2, g3, g4, g5, g6, g7, g8, Nat.reduceEqDiff, Nat.reduceAdd, false_and, and_false, true_and, and_true, reduceIte, nZ0, nZ1]
  refine ⟨by (first | omega | with_reducible assumption | (unfold rng; omega) | (unfold rng; (repeat' split) <;> omega) | grind), ?_⟩
  have q1 := rσ.1 76 (v1.toNat); simp only [rgT] at q1
  have L8 : ∀ (fu8 : Nat) (τ8 : Sg) (v5 : Int), Rg ra jx rm τ8 → Fr ra jx rm [75, 76, 77, 78] [79, 80] σ τ8 → (∃ own ps, ((RecI ra rm τ8 own ps ∧ MtI ra jx ja τ8 own) ∧ (v5 = -1 ∨ own v5 = v1)) ∧ (lmm ra τ8 v1 ps v5) < fu8) → (0) < 1 + 0 * 8 → wl_X16_growJoin_8 ra jx rm Q X fu8 τ8 v2 v3 v5 := by
    intro fu8
    induction fu8 with
    | zero => intro τ8 _ _ _ h9 _; obtain ⟨_, _, h9⟩ := h9; omega
    | succ fu8 ih8 =>
      intro τ8 v5 rτ8 fτ8 hi8 hm8
      obtain ⟨own, ps, hi8, hm8⟩ := hi8
      unfold wl_X16_growJoin_8
      have eτ8_68 := fτ8.1 68 (by decide)
      have eτ8_71 := fτ8.1 71 (by decide)
      have jτ8 := fτ8.2.2.1
      have pτ8 := fτ8.2.2.2
      unfold w_X16_growJoin_8
      try simp only [forall_eq, rII, rIJ, rIP, rJJ, rJI, rJP, rPP, rPI, rPJ, g1, g2, g3, g4, g5, g6, g7, g8, Nat.reduceEqDiff, Nat.reduceAdd, false_and, and_false, true_and, and_true, reduceIte, nZ0, nZ1, eτ8_68.1, eτ8_68.2, eτ8_71.1, eτ8_71.2, fun a k => (jτ8 a k).1, fun a k => (jτ8 a k).2, pτ8]
      split
      · rename_i hc11
        skip
        unfold w_X16_growJoin_92
        try simp only [forall_eq, rII, rIJ, rIP, rJJ, rJI, rJP, rPP, rPI, rPJ, g1, g2, g3, g4, g5, g6, g7, g8, Nat.reduceEqDiff, Nat.reduceAdd, false_and, and_false, true_and, and_true, reduceIte, nZ0, nZ1, eτ8_68.1, eτ8_68.2, eτ8_71.1, eτ8_71.2, fun a k => (jτ8 a k).1, fun a k => (jτ8 a k).2, pτ8]
        refine hQ _ _ ?_ ?_ ?_
        · exact rτ8
        · exact fτ8
        · exact ⟨_, _, hi8.1.1, hi8.1.2⟩
      · rename_i hc11
        skip
        unfold w_X16_growJoin_14
        try simp only [forall_eq, rII, rIJ, rIP, rJJ, rJI, rJP, rPP, rPI, rPJ, g1, g2, g3, g4, g5, g6, g7, g8, Nat.reduceEqDiff, Nat.reduceAdd, false_and, and_false, true_and, and_true, reduceIte, nZ0, nZ1, eτ8_68.1, eτ8_68.2, eτ8_71.1, eτ8_71.2, fun a k => (jτ8 a k).1, fun a k => (jτ8 a k).2, pτ8]
        have hov := hi8.2.resolve_left (by assumption)
        have nv5 := hi8.1.1.nd hov h1
        refine ⟨by (first | omega | with_reducible assumption | (unfold rng; omega) | (unfold rng; (repeat' split) <;> omega) | grind), ?_⟩
        refine ⟨by (first | omega | with_reducible assumption | (unfold rng; omega) | (unfold rng; (repeat' split) <;> omega) | grind), ?_⟩
        have q2 := rσ.1 68 (v5.toNat); simp only [rgT] at q2
        split
        · rename_i hc30
          skip
          unfold w_X16_growJoin_53
          try simp only [forall_eq, rII, rIJ, rIP, rJJ, rJI, rJP, rPP, rPI, rPJ, g1, g2, g3, g4, g5, g6, g7, g8, Nat.reduceEqDiff, Nat.reduceAdd, false_and, and_false, true_and, and_true, reduceIte, nZ0, nZ1, eτ8_68.1, eτ8_68.2, eτ8_71.1, eτ8_71.2, fun a k => (jτ8 a k).1, fun a k => (jτ8 a k).2, pτ8]
          refine ⟨by (first | omega | with_reducible assumption | (unfold rng; omega) | (unfold rng; (repeat' split) <;> omega) | grind), ?_⟩
          refine ⟨ja, by exact hj, hja, ?_⟩
          refine ⟨by (first | omega | with_reducible assumption | (unfold rng; omega) | (unfold rng; (repeat' split) <;> omega) | grind), ?_⟩
          unfold w_X16_growJoin_70
          try simp only [forall_eq, rII, rIJ, rIP, rJJ, rJI, rJP, rPP, rPI, rPJ, g1, g2, g3, g4, g5, g6, g7, g8, Nat.reduceEqDiff, Nat.reduceAdd, false_and, and_false, true_and, and_true, reduceIte, nZ0, nZ1, eτ8_68.1, eτ8_68.2, eτ8_71.1, eτ8_71.2, fun a k => (jτ8 a k).1, fun a k => (jτ8 a k).2, pτ8]
          split
          · rename_i hc76
            skip
            unfold w_X16_growJoin_85
            try simp only [forall_eq, rII, rIJ, rIP, rJJ, rJI, rJP, rPP, rPI, rPJ, g1, g2, g3, g4, g5, g6, g7, g8, Nat.reduceEqDiff, Nat.reduceAdd, false_and, and_false, true_and, and_true, reduceIte, nZ0, nZ1, eτ8_68.1, eτ8_68.2, eτ8_71.1, eτ8_71.2, fun a k => (jτ8 a k).1, fun a k => (jτ8 a k).2, pτ8]
            have q3 := rτ8.1 75 (v5.toNat); simp only [rgT] at q3
            refine ih8 _ _ ?_ ?_ ?_ ?_
            · exact rτ8
            · exact fτ8
            · first | exact stepD hi8.1.1 hi8.1.2 h1 hov p9 fc9 hm8 | exact stepK hi8.1.1 hi8.1.2 h1 hov hm8
            · omega
          · rename_i hc76
            skip
            unfold w_X16_growJoin_79
            try simp only [forall_eq, rII, rIJ, rIP, rJJ, rJI, rJP, rPP, rPI, rPJ, g1, g2, g3, g4, g5, g6, g7, g8, Nat.reduceEqDiff, Nat.reduceAdd, false_and, and_false, true_and, and_true, reduceIte, nZ0, nZ1, eτ8_68.1, eτ8_68.2, eτ8_71.1, eτ8_71.2, fun a k => (jτ8 a k).1, fun a k => (jτ8 a k).2, pτ8]
            refine s_X16_drop (own := own) (ps := ps) g rτ8 hi8.1.1 h1 hov (fun σ8 _ rσ8 fc p4 => ?_)
            have fσ8 : Fr ra jx rm [75, 76, 77, 78] [79, 80] σ σ8 := Fr.tr fτ8 (Fr.mor (fc) (by decide) (by decide))
            have p9 := p4
            have fc9 := fc
            have eσ8_68 := fσ8.1 68 (by decide)
            have eσ8_71 := fσ8.1 71 (by decide)
            have jσ8 := fσ8.2.2.1
            have pσ8 := fσ8.2.2.2
            try simp only [forall_eq, rII, rIJ, rIP, rJJ, rJI, rJP, rPP, rPI, rPJ, g1, g2, g3, g4, g5, g6, g7, g8, Nat.reduceEqDiff, Nat.reduceAdd, false_and, and_false, true_and, and_true, reduceIte, nZ0, nZ1, eσ8_68.1, eσ8_68.2, eσ8_71.1, eσ8_71.2, fun a k => (jσ8 a k).1, fun a k => (jσ8 a k).2, pσ8]
            unfold w_X16_growJoin_85
            try simp only [forall_eq, rII, rIJ, rIP, rJJ, rJI, rJP, rPP, rPI, rPJ, g1, g2, g3, g4, g5, g6, g7, g8, Nat.reduceEqDiff, Nat.reduceAdd, false_and, and_false, true_and, and_true, reduceIte, nZ0, nZ1, eσ8_68.1, eσ8_68.2, eσ8_71.1, eσ8_71.2, fun a k => (jσ8 a k).1, fun a k => (jσ8 a k).2, pσ8]
            have q5 := rτ8.1 75 (v5.toNat); simp only [rgT] at q5
            refine ih8 _ _ ?_ ?_ ?_ ?_
            · exact rσ8
            · exact fσ8
            · first | exact stepD hi8.1.1 hi8.1.2 h1 hov p9 fc9 hm8 | exact stepK hi8.1.1 hi8.1.2 h1 hov hm8
            · omega
        · rename_i hc30
          skip
          unfold w_X16_growJoin_33
          try simp only [forall_eq, rII, rIJ, rIP, rJJ, rJI, rJP, rPP, rPI, rPJ, g1, g2, g3, g4, g5, g6, g7, g8, Nat.reduceEqDiff, Nat.reduceAdd, false_and, and_false, true_and, and_true, reduceIte, nZ0, nZ1, eτ8_68.1, eτ8_68.2, eτ8_71.1, eτ8_71.2, fun a k => (jτ8 a k).1, fun a k => (jτ8 a k).2, pτ8]
          refine ⟨by (first | omega | with_reducible assumption | (unfold rng; omega) | (unfold rng; (repeat' split) <;> omega) | grind), ?_⟩
          refine ⟨ja, by exact hj, hja, ?_⟩
          refine ⟨by (first | omega | with_reducible assumption | (unfold rng; omega) | (unfold rng; (repeat' split) <;> omega) | grind), ?_⟩
          unfold w_X16_growJoin_70
          try simp only [forall_eq, rII, rIJ, rIP, rJJ, rJI, rJP, rPP, rPI, rPJ, g1, g2, g3, g4, g5, g6, g7, g8, Nat.reduceEqDiff, Nat.reduceAdd, false_and, and_false, true_and, and_true, reduceIte, nZ0, nZ1, eτ8_68.1, eτ8_68.2, eτ8_71.1, eτ8_71.2, fun a k => (jτ8 a k).1, fun a k => (jτ8 a k).2, pτ8]
          split
          · rename_i hc76
            skip
            unfold w_X16_growJoin_85
            try simp only [forall_eq, rII, rIJ, rIP, rJJ, rJI, rJP, rPP, rPI, rPJ, g1, g2, g3, g4, g5, g6, g7, g8, Nat.reduceEqDiff, Nat.reduceAdd, false_and, and_false, true_and, and_true, reduceIte, nZ0, nZ1, eτ8_68.1, eτ8_68.2, eτ8_71.1, eτ8_71.2, fun a k => (jτ8 a k).1, fun a k => (jτ8 a k).2, pτ8]
            have q6 := rτ8.1 75 (v5.toNat); simp only [rgT] at q6
            refine ih8 _ _ ?_ ?_ ?_ ?_
            · exact rτ8
            · exact fτ8
            · first | exact stepD hi8.1.1 hi8.1.2 h1 hov p9 fc9 hm8 | exact stepK hi8.1.1 hi8.1.2 h1 hov hm8
            · omega
          · rename_i hc76
            skip
            unfold w_X16_growJoin_79
            try simp only [forall_eq, rII, rIJ, rIP, rJJ, rJI, rJP, rPP, rPI, rPJ, g1, g2, g3, g4, g5, g6, g7, g8, Nat.reduceEqDiff, Nat.reduceAdd, false_and, and_false, true_and, and_true, reduceIte, nZ0, nZ1, eτ8_68.1, eτ8_68.2, eτ8_71.1, eτ8_71.2, fun a k => (jτ8 a k).1, fun a k => (jτ8 a k).2, pτ8]
            refine s_X16_drop (own := own) (ps := ps) g rτ8 hi8.1.1 h1 hov (fun σ10 _ rσ10 fc p7 => ?_)
            have fσ10 : Fr ra jx rm [75, 76, 77, 78] [79, 80] σ σ10 := Fr.tr fτ8 (Fr.mor (fc) (by decide) (by decide))
            have p9 := p7
            have fc9 := fc
            have eσ10_68 := fσ10.1 68 (by decide)
            have eσ10_71 := fσ10.1 71 (by decide)
            have jσ10 := fσ10.2.2.1
            have pσ10 := fσ10.2.2.2
            try simp only [forall_eq, rII, rIJ, rIP, rJJ, rJI, rJP, rPP, rPI, rPJ, g1, g2, g3, g4, g5, g6, g7, g8, Nat.reduceEqDiff, Nat.reduceAdd, false_and, and_false, true_and, and_true, reduceIte, nZ0, nZ1, eσ10_68.1, eσ10_68.2, eσ10_71.1, eσ10_71.2, fun a k => (jσ10 a k).1, fun a k => (jσ10 a k).2, pσ10]
            unfold w_X16_growJoin_85
            try simp only [forall_eq, rII, rIJ, rIP, rJJ, rJI, rJP, rPP, rPI, rPJ, g1, g2, g3, g4, g5, g6, g7, g8, Nat.reduceEqDiff, Nat.reduceAdd, false_and, and_false, true_and, and_true, reduceIte, nZ0, nZ1, eσ10_68.1, eσ10_68.2, eσ10_71.1, eσ10_71.2, fun a k => (jσ10 a k).1, fun a k => (jσ10 a k).2, pσ10]
            have q8 := rτ8.1 75 (v5.toNat); simp only [rgT] at q8
            refine ih8 _ _ ?_ ?_ ?_ ?_
            · exact rσ10
            · exact fσ10
            · first | exact stepD hi8.1.1 hi8.1.2 h1 hov p9 fc9 hm8 | exact stepK hi8.1.1 hi8.1.2 h1 hov hm8
            · omega
  refine ⟨(lmm ra σ v1 ps0 (gI σ (ra 76) v1.toNat)) + 1, L8 _ _ _ ?_ ?_ ?_ (by omega)⟩
  · exact rσ
  · exact fσ
  · exact ⟨own0, ps0, ⟨⟨hr0, hm0⟩, hr0.hd h1⟩, Nat.lt_succ_self _⟩
set_option maxHeartbeats 4000000 in
theorem s_X16_growSpans {ra : Nat → Nat} {jx : Nat → Nat → Nat} {rm : Nat} {ja : Nat} (g : Geo ra jx rm) {σ : Sg} {v1 : Int} {v2 : Int} {v3 : Int64} (rσ : Rg ra jx rm σ) (hj : gP σ rm 17 = some ja) (hja : ja = ra 15 ∨ ja = ra 16) (hre : RecE ra jx rm ja σ) (hth : ThE ra rm σ) (h1 : 0 ≤ v1 ∧ v1 < 64) (h2 : 0 ≤ v2 ∧ v2 < 16) (h3 : v3.toInt ≤ 4611686018427387904) (hp : 1 ≤ gI σ rm 33) {Q : Sg → Unit → Prop} {X : Sg → String → Prop} (hQ : ∀ (σ' : Sg) (r : Unit), Rg ra jx rm σ' → Fr ra jx rm [46, 47, 48, 49, 60, 61, 62, 63, 64, 65, 75, 76, 77, 78, 82] [66, 67, 79, 80] σ σ' → (RecE ra jx rm ja σ' ∧ ThE ra rm σ') → Q σ' r) (hX : ∀ (σ' : Sg) (E : String), Rg ra jx rm σ' → Fr ra jx rm [46, 47, 48, 49, 60, 61, 62, 63, 64, 65, 75, 76, 77, 78, 82] [66, 67, 79, 80] σ σ' → (E = "StreamHouseModel$Broken" ∧ ThE ra rm σ' ∧ RecE ra jx rm ja σ') → X σ' E) : wp_X16_growSpans ra jx rm v1 v2 v3 σ Q X := by
  obtain ⟨g1, g2, g3, g4, g5, g6, g7, g8⟩ := id g
  have fσ : Fr ra jx rm [46, 47, 48, 49, 60, 61, 62, 63, 64, 65, 75, 76, 77, 78, 82] [66, 67, 79, 80] σ σ := Fr.rf
  unfold wp_X16_growSpans
  have L0 : ∀ (fu0 : Nat) (τ0 : Sg), Rg ra jx rm τ0 → Fr ra jx rm [46, 47, 48, 49, 60, 61, 62, 63, 64, 65, 75, 76, 77, 78, 82] [66, 67, 79, 80] σ τ0 → (RecE ra jx rm ja τ0 ∧ ThE ra rm τ0) → ((gI τ0 (ra 78) v1.toNat).toNat) < fu0 → wl_X16_growSpans_0 ra jx rm Q X fu0 τ0 v1 v2 v3 := by
    intro fu0
    induction fu0 with
    | zero => intro τ0 _ _ _ h9; omega
    | succ fu0 ih0 =>
      intro τ0 rτ0 fτ0 hi0 hm0
      unfold wl_X16_growSpans_0
      have eτ0_70 := fτ0.1 70 (by decide)
      have eτ0_71 := fτ0.1 71 (by decide)
      have jτ0 := fτ0.2.2.1
      have pτ0 := fτ0.2.2.2
      unfold w_X16_growSpans_0
      try simp only [forall_eq, rII, rIJ, rIP, rJJ, rJI, rJP, rPP, rPI, rPJ, g1, g2, g3, g4, g5, g6, g7, g8, Nat.reduceEqDiff, Nat.reduceAdd, false_and, and_false, true_and, and_true, reduceIte, nZ0, nZ1, eτ0_70.1, eτ0_70.2, eτ0_71.1, eτ0_71.2, fun a k => (jτ0 a k).1, fun a k => (jτ0 a k).2, pτ0]
      obtain ⟨⟨own, ps, hr, hm⟩, hth0⟩ := hi0
      have hhd := hr.hd h1
      refine ⟨by (first | omega | with_reducible assumption | (unfold rng; omega) | (unfold rng; (repeat' split) <;> omega) | grind), ?_⟩
      have q1 := rτ0.1 76 (v1.toNat); simp only [rgT] at q1
      have L11 : ∀ (fu11 : Nat) (v5 : Int) (v6 : Int), ((v6 = -1 ∨ own v6 = v1) ∧ (v5 = -1 ∨ (own v5 = v1 ∧ ¬ (((gJ σ (ra 71) v5.toNat * gJ σ (jx ja 9) v2.toNat) + gJ σ (jx ja 8) v2.toNat - 1) > v3)))) → ((if v6 < 0 then 0 else gI τ0 (ra 78) v1.toNat - ps v6).toNat) < fu11 → wl_X16_growSpans_11 ra jx rm (wl_X16_growSpans_0 ra jx rm Q X fu0) Q X fu11 τ0 v1 v2 v3 v5 v6 := by
        intro fu11
        induction fu11 with
        | zero => intro  _ _ _ h9; omega
        | succ fu11 ih11 =>
          intro v5 v6 hi11 hm11
          unfold wl_X16_growSpans_11
          unfold w_X16_growSpans_11
          try simp only [forall_eq, rII, rIJ, rIP, rJJ, rJI, rJP, rPP, rPI, rPJ, g1, g2, g3, g4, g5, g6, g7, g8, Nat.reduceEqDiff, Nat.reduceAdd, false_and, and_false, true_and, and_true, reduceIte, nZ0, nZ1, eτ0_70.1, eτ0_70.2, eτ0_71.1, eτ0_71.2, fun a k => (jτ0 a k).1, fun a k => (jτ0 a k).2, pτ0]
          split
          · rename_i hc14
            skip
            unfold w_X16_growSpans_139
            try simp only [forall_eq, rII, rIJ, rIP, rJJ, rJI, rJP, rPP, rPI, rPJ, g1, g2, g3, g4, g5, g6, g7, g8, Nat.reduceEqDiff, Nat.reduceAdd, false_and, and_false, true_and, and_true, reduceIte, nZ0, nZ1, eτ0_70.1, eτ0_70.2, eτ0_71.1, eτ0_71.2, fun a k => (jτ0 a k).1, fun a k => (jτ0 a k).2, pτ0]
            split
            · rename_i hc142
              skip
              unfold w_X16_growSpans_182
              try simp only [forall_eq, rII, rIJ, rIP, rJJ, rJI, rJP, rPP, rPI, rPJ, g1, g2, g3, g4, g5, g6, g7, g8, Nat.reduceEqDiff, Nat.reduceAdd, false_and, and_false, true_and, and_true, reduceIte, nZ0, nZ1, eτ0_70.1, eτ0_70.2, eτ0_71.1, eτ0_71.2, fun a k => (jτ0 a k).1, fun a k => (jτ0 a k).2, pτ0]
              rw [if_neg (show ¬ (v5 ≠ (-1)) by omega)]
              unfold w_X16_growSpans_188
              try simp only [forall_eq, rII, rIJ, rIP, rJJ, rJI, rJP, rPP, rPI, rPJ, g1, g2, g3, g4, g5, g6, g7, g8, Nat.reduceEqDiff, Nat.reduceAdd, false_and, and_false, true_and, and_true, reduceIte, nZ0, nZ1, eτ0_70.1, eτ0_70.2, eτ0_71.1, eτ0_71.2, fun a k => (jτ0 a k).1, fun a k => (jτ0 a k).2, pτ0]
              refine hQ _ _ ?_ ?_ ?_
              · exact rτ0
              · exact fτ0
              · exact ⟨⟨_, _, hr, hm⟩, hth0⟩
            · rename_i hc142
              skip
              unfold w_X16_growSpans_145
              try simp only [forall_eq, rII, rIJ, rIP, rJJ, rJI, rJP, rPP, rPI, rPJ, g1, g2, g3, g4, g5, g6, g7, g8, Nat.reduceEqDiff, Nat.reduceAdd, false_and, and_false, true_and, and_true, reduceIte, nZ0, nZ1, eτ0_70.1, eτ0_70.2, eτ0_71.1, eτ0_71.2, fun a k => (jτ0 a k).1, fun a k => (jτ0 a k).2, pτ0]
              have ho5 := hi11.2.resolve_left (by assumption)
              have n5 := hr.nd ho5.1 h1
              refine ⟨by (first | omega | with_reducible assumption | (unfold rng; omega) | (unfold rng; (repeat' split) <;> omega) | grind), ?_⟩
              refine ⟨ja, by exact hj, hja, ?_⟩
              refine ⟨by (first | omega | with_reducible assumption | (unfold rng; omega) | (unfold rng; (repeat' split) <;> omega) | grind), ?_⟩
              refine ⟨ja, by exact hj, hja, ?_⟩
              refine ⟨by (first | omega | with_reducible assumption | (unfold rng; omega) | (unfold rng; (repeat' split) <;> omega) | grind), ?_⟩
              refine s_X16_emitFold (own := own) (ps := ps) g rτ0 (by first | exact hj | (rw [fτ0.2.2.2]; exact hj)) hja hr hm hth0 (by (try simp only [rII, rIJ, rIP, rJJ, rJI, rJP, rPP, rPI, rPJ, g1, g2, g3, g4, g5, g6, g7, g8, Nat.reduceEqDiff, Nat.reduceAdd, false_and, and_false, true_and, and_true, reduceIte, nZ0, nZ1, eτ0_70.1, eτ0_70.2, eτ0_71.1, eτ0_71.2, fun a k => (jτ0 a k).1, fun a k => (jτ0 a k).2, pτ0]) <;> (first | omega | with_reducible assumption | (unfold rng; omega) | (unfold rng; (repeat' split) <;> omega) | grind)) (by (try simp only [rII, rIJ, rIP, rJJ, rJI, rJP, rPP, rPI, rPJ, g1, g2, g3, g4, g5, g6, g7, g8, Nat.reduceEqDiff, Nat.reduceAdd, false_and, and_false, true_and, and_true, reduceIte, nZ0, nZ1, eτ0_70.1, eτ0_70.2, eτ0_71.1, eτ0_71.2, fun a k => (jτ0 a k).1, fun a k => (jτ0 a k).2, pτ0]) <;> (first | omega | with_reducible assumption | (unfold rng; omega) | (unfold rng; (repeat' split) <;> omega) | grind)) ho5.1 (by have w9 := i64_le ho5.2; (try simp only [rII, rIJ, rIP, rJJ, rJI, rJP, rPP, rPI, rPJ, g1, g2, g3, g4, g5, g6, g7, g8, Nat.reduceEqDiff, Nat.reduceAdd, false_and, and_false, true_and, and_true, reduceIte, nZ0, nZ1, eτ0_70.1, eτ0_70.2, eτ0_71.1, eτ0_71.2, fun a k => (jτ0 a k).1, fun a k => (jτ0 a k).2, pτ0]) <;> omega) (by (try simp only [rII, rIJ, rIP, rJJ, rJI, rJP, rPP, rPI, rPJ, g1, g2, g3, g4, g5, g6, g7, g8, Nat.reduceEqDiff, Nat.reduceAdd, false_and, and_false, true_and, and_true, reduceIte, nZ0, nZ1, eτ0_70.1, eτ0_70.2, eτ0_71.1, eτ0_71.2, fun a k => (jτ0 a k).1, fun a k => (jτ0 a k).2, pτ0]) <;> first | exact hp | (rw [(fτ0.2.1 33 (by decide)).1]; exact hp)) (fun σ13 _ rσ13 fc p2 => ?_) (fun σx E rx fx px => hX _ _ rx (Fr.tr fτ0 (Fr.mor (fx) (by decide) (by decide))) px)
              have fσ13 : Fr ra jx rm [46, 47, 48, 49, 60, 61, 62, 63, 64, 65, 75, 76, 77, 78, 82] [66, 67, 79, 80] σ σ13 := Fr.tr fτ0 (Fr.mor (fc) (by decide) (by decide))
              have p9 := p2
              have m9 := p9.1.2
              have eσ13_70 := fσ13.1 70 (by decide)
              have eσ13_71 := fσ13.1 71 (by decide)
              have jσ13 := fσ13.2.2.1
              have pσ13 := fσ13.2.2.2
              try simp only [forall_eq, rII, rIJ, rIP, rJJ, rJI, rJP, rPP, rPI, rPJ, g1, g2, g3, g4, g5, g6, g7, g8, Nat.reduceEqDiff, Nat.reduceAdd, false_and, and_false, true_and, and_true, reduceIte, nZ0, nZ1, eσ13_70.1, eσ13_70.2, eσ13_71.1, eσ13_71.2, fun a k => (jσ13 a k).1, fun a k => (jσ13 a k).2, pσ13]
              unfold w_X16_growSpans_182
              try simp only [forall_eq, rII, rIJ, rIP, rJJ, rJI, rJP, rPP, rPI, rPJ, g1, g2, g3, g4, g5, g6, g7, g8, Nat.reduceEqDiff, Nat.reduceAdd, false_and, and_false, true_and, and_true, reduceIte, nZ0, nZ1, eσ13_70.1, eσ13_70.2, eσ13_71.1, eσ13_71.2, fun a k => (jσ13 a k).1, fun a k => (jσ13 a k).2, pσ13]
              rw [if_pos (show (v5 ≠ (-1)) by omega)]
              refine ih0 _ ?_ ?_ ?_ ?_
              · exact rσ13
              · exact fσ13
              · first | exact ⟨hre, hth⟩ | exact ⟨⟨_, _, p9.1.1, p9.2.1⟩, p9.2.2⟩
              · (try simp only [rII, rIJ, rIP, rJJ, rJI, rJP, rPP, rPI, rPJ, g1, g2, g3, g4, g5, g6, g7, g8, Nat.reduceEqDiff, Nat.reduceAdd, false_and, and_false, true_and, and_true, reduceIte, nZ0, nZ1, eσ13_70.1, eσ13_70.2, eσ13_71.1, eσ13_71.2, fun a k => (jσ13 a k).1, fun a k => (jσ13 a k).2, pσ13]) <;> (first | omega | with_reducible assumption | (unfold rng; omega) | (unfold rng; (repeat' split) <;> omega) | grind)
          · rename_i hc14
            skip
            unfold w_X16_growSpans_17
            try simp only [forall_eq, rII, rIJ, rIP, rJJ, rJI, rJP, rPP, rPI, rPJ, g1, g2, g3, g4, g5, g6, g7, g8, Nat.reduceEqDiff, Nat.reduceAdd, false_and, and_false, true_and, and_true, reduceIte, nZ0, nZ1, eτ0_70.1, eτ0_70.2, eτ0_71.1, eτ0_71.2, fun a k => (jτ0 a k).1, fun a k => (jτ0 a k).2, pτ0]
            have nv6 := hr.nd (hi11.1.resolve_left (by assumption)) h1
            refine ⟨by (first | omega | with_reducible assumption | (unfold rng; omega) | (unfold rng; (repeat' split) <;> omega) | grind), ?_⟩
            refine ⟨ja, by exact hj, hja, ?_⟩
            refine ⟨by (first | omega | with_reducible assumption | (unfold rng; omega) | (unfold rng; (repeat' split) <;> omega) | grind), ?_⟩
            refine ⟨ja, by exact hj, hja, ?_⟩
            refine ⟨by (first | omega | with_reducible assumption | (unfold rng; omega) | (unfold rng; (repeat' split) <;> omega) | grind), ?_⟩
            split
            · rename_i hc48
              skip
              unfold w_X16_growSpans_55
              try simp only [forall_eq, rII, rIJ, rIP, rJJ, rJI, rJP, rPP, rPI, rPJ, g1, g2, g3, g4, g5, g6, g7, g8, Nat.reduceEqDiff, Nat.reduceAdd, false_and, and_false, true_and, and_true, reduceIte, nZ0, nZ1, eτ0_70.1, eτ0_70.2, eτ0_71.1, eτ0_71.2, fun a k => (jτ0 a k).1, fun a k => (jτ0 a k).2, pτ0]
              unfold w_X16_growSpans_56
              try simp only [forall_eq, rII, rIJ, rIP, rJJ, rJI, rJP, rPP, rPI, rPJ, g1, g2, g3, g4, g5, g6, g7, g8, Nat.reduceEqDiff, Nat.reduceAdd, false_and, and_false, true_and, and_true, reduceIte, nZ0, nZ1, eτ0_70.1, eτ0_70.2, eτ0_71.1, eτ0_71.2, fun a k => (jτ0 a k).1, fun a k => (jτ0 a k).2, pτ0]
              try rw [if_pos (by decide)]
              unfold w_X16_growSpans_127
              try simp only [forall_eq, rII, rIJ, rIP, rJJ, rJI, rJP, rPP, rPI, rPJ, g1, g2, g3, g4, g5, g6, g7, g8, Nat.reduceEqDiff, Nat.reduceAdd, false_and, and_false, true_and, and_true, reduceIte, nZ0, nZ1, eτ0_70.1, eτ0_70.2, eτ0_71.1, eτ0_71.2, fun a k => (jτ0 a k).1, fun a k => (jτ0 a k).2, pτ0]
              refine ⟨by (first | omega | with_reducible assumption | (unfold rng; omega) | (unfold rng; (repeat' split) <;> omega) | grind), ?_⟩
              have q3 := rτ0.1 75 (v6.toNat); simp only [rgT] at q3
              refine ih11 _ _ ?_ ?_
              · (try simp only [rII, rIJ, rIP, rJJ, rJI, rJP, rPP, rPI, rPJ, g1, g2, g3, g4, g5, g6, g7, g8, Nat.reduceEqDiff, Nat.reduceAdd, false_and, and_false, true_and, and_true, reduceIte, nZ0, nZ1, eτ0_70.1, eτ0_70.2, eτ0_71.1, eτ0_71.2, fun a k => (jτ0 a k).1, fun a k => (jτ0 a k).2, pτ0]) <;> first | omega | grind
              · (try simp only [rII, rIJ, rIP, rJJ, rJI, rJP, rPP, rPI, rPJ, g1, g2, g3, g4, g5, g6, g7, g8, Nat.reduceEqDiff, Nat.reduceAdd, false_and, and_false, true_and, and_true, reduceIte, nZ0, nZ1, eτ0_70.1, eτ0_70.2, eτ0_71.1, eτ0_71.2, fun a k => (jτ0 a k).1, fun a k => (jτ0 a k).2, pτ0]) <;> (first | omega | with_reducible assumption | (unfold rng; omega) | (unfold rng; (repeat' split) <;> omega) | grind)
            · rename_i hc48
              skip
              unfold w_X16_growSpans_51
              try simp only [forall_eq, rII, rIJ, rIP, rJJ, rJI, rJP, rPP, rPI, rPJ, g1, g2, g3, g4, g5, g6, g7, g8, Nat.reduceEqDiff, Nat.reduceAdd, false_and, and_false, true_and, and_true, reduceIte, nZ0, nZ1, eτ0_70.1, eτ0_70.2, eτ0_71.1, eτ0_71.2, fun a k => (jτ0 a k).1, fun a k => (jτ0 a k).2, pτ0]
              unfold w_X16_growSpans_56
              try simp only [forall_eq, rII, rIJ, rIP, rJJ, rJI, rJP, rPP, rPI, rPJ, g1, g2, g3, g4, g5, g6, g7, g8, Nat.reduceEqDiff, Nat.reduceAdd, false_and, and_false, true_and, and_true, reduceIte, nZ0, nZ1, eτ0_70.1, eτ0_70.2, eτ0_71.1, eτ0_71.2, fun a k => (jτ0 a k).1, fun a k => (jτ0 a k).2, pτ0]
              try rw [if_neg (by decide)]
              unfold w_X16_growSpans_63
              try simp only [forall_eq, rII, rIJ, rIP, rJJ, rJI, rJP, rPP, rPI, rPJ, g1, g2, g3, g4, g5, g6, g7, g8, Nat.reduceEqDiff, Nat.reduceAdd, false_and, and_false, true_and, and_true, reduceIte, nZ0, nZ1, eτ0_70.1, eτ0_70.2, eτ0_71.1, eτ0_71.2, fun a k => (jτ0 a k).1, fun a k => (jτ0 a k).2, pτ0]
              split
              · rename_i hc66
                skip
                unfold w_X16_growSpans_123
                try simp only [forall_eq, rII, rIJ, rIP, rJJ, rJI, rJP, rPP, rPI, rPJ, g1, g2, g3, g4, g5, g6, g7, g8, Nat.reduceEqDiff, Nat.reduceAdd, false_and, and_false, true_and, and_true, reduceIte, nZ0, nZ1, eτ0_70.1, eτ0_70.2, eτ0_71.1, eτ0_71.2, fun a k => (jτ0 a k).1, fun a k => (jτ0 a k).2, pτ0]
                unfold w_X16_growSpans_127
                try simp only [forall_eq, rII, rIJ, rIP, rJJ, rJI, rJP, rPP, rPI, rPJ, g1, g2, g3, g4, g5, g6, g7, g8, Nat.reduceEqDiff, Nat.reduceAdd, false_and, and_false, true_and, and_true, reduceIte, nZ0, nZ1, eτ0_70.1, eτ0_70.2, eτ0_71.1, eτ0_71.2, fun a k => (jτ0 a k).1, fun a k => (jτ0 a k).2, pτ0]
                refine ⟨by (first | omega | with_reducible assumption | (unfold rng; omega) | (unfold rng; (repeat' split) <;> omega) | grind), ?_⟩
                have q4 := rτ0.1 75 (v6.toNat); simp only [rgT] at q4
                refine ih11 _ _ ?_ ?_
                · (try simp only [rII, rIJ, rIP, rJJ, rJI, rJP, rPP, rPI, rPJ, g1, g2, g3, g4, g5, g6, g7, g8, Nat.reduceEqDiff, Nat.reduceAdd, false_and, and_false, true_and, and_true, reduceIte, nZ0, nZ1, eτ0_70.1, eτ0_70.2, eτ0_71.1, eτ0_71.2, fun a k => (jτ0 a k).1, fun a k => (jτ0 a k).2, pτ0]) <;> first | omega | grind
                · (try simp only [rII, rIJ, rIP, rJJ, rJI, rJP, rPP, rPI, rPJ, g1, g2, g3, g4, g5, g6, g7, g8, Nat.reduceEqDiff, Nat.reduceAdd, false_and, and_false, true_and, and_true, reduceIte, nZ0, nZ1, eτ0_70.1, eτ0_70.2, eτ0_71.1, eτ0_71.2, fun a k => (jτ0 a k).1, fun a k => (jτ0 a k).2, pτ0]) <;> (first | omega | with_reducible assumption | (unfold rng; omega) | (unfold rng; (repeat' split) <;> omega) | grind)
              · rename_i hc66
                skip
                unfold w_X16_growSpans_69
                try simp only [forall_eq, rII, rIJ, rIP, rJJ, rJI, rJP, rPP, rPI, rPJ, g1, g2, g3, g4, g5, g6, g7, g8, Nat.reduceEqDiff, Nat.reduceAdd, false_and, and_false, true_and, and_true, reduceIte, nZ0, nZ1, eτ0_70.1, eτ0_70.2, eτ0_71.1, eτ0_71.2, fun a k => (jτ0 a k).1, fun a k => (jτ0 a k).2, pτ0]
                have ho5 := hi11.2.resolve_left (by assumption)
                have n5 := hr.nd ho5.1 h1
                refine ⟨by (first | omega | with_reducible assumption | (unfold rng; omega) | (unfold rng; (repeat' split) <;> omega) | grind), ?_⟩
                refine ⟨by (first | omega | with_reducible assumption | (unfold rng; omega) | (unfold rng; (repeat' split) <;> omega) | grind), ?_⟩
                split
                · rename_i hc84
                  skip
                  unfold w_X16_growSpans_123
                  try simp only [forall_eq, rII, rIJ, rIP, rJJ, rJI, rJP, rPP, rPI, rPJ, g1, g2, g3, g4, g5, g6, g7, g8, Nat.reduceEqDiff, Nat.reduceAdd, false_and, and_false, true_and, and_true, reduceIte, nZ0, nZ1, eτ0_70.1, eτ0_70.2, eτ0_71.1, eτ0_71.2, fun a k => (jτ0 a k).1, fun a k => (jτ0 a k).2, pτ0]
                  unfold w_X16_growSpans_127
                  try simp only [forall_eq, rII, rIJ, rIP, rJJ, rJI, rJP, rPP, rPI, rPJ, g1, g2, g3, g4, g5, g6, g7, g8, Nat.reduceEqDiff, Nat.reduceAdd, false_and, and_false, true_and, and_true, reduceIte, nZ0, nZ1, eτ0_70.1, eτ0_70.2, eτ0_71.1, eτ0_71.2, fun a k => (jτ0 a k).1, fun a k => (jτ0 a k).2, pτ0]
                  refine ⟨by (first | omega | with_reducible assumption | (unfold rng; omega) | (unfold rng; (repeat' split) <;> omega) | grind), ?_⟩
                  have q5 := rτ0.1 75 (v6.toNat); simp only [rgT] at q5
                  refine ih11 _ _ ?_ ?_
                  · (try simp only [rII, rIJ, rIP, rJJ, rJI, rJP, rPP, rPI, rPJ, g1, g2, g3, g4, g5, g6, g7, g8, Nat.reduceEqDiff, Nat.reduceAdd, false_and, and_false, true_and, and_true, reduceIte, nZ0, nZ1, eτ0_70.1, eτ0_70.2, eτ0_71.1, eτ0_71.2, fun a k => (jτ0 a k).1, fun a k => (jτ0 a k).2, pτ0]) <;> first | omega | grind
                  · (try simp only [rII, rIJ, rIP, rJJ, rJI, rJP, rPP, rPI, rPJ, g1, g2, g3, g4, g5, g6, g7, g8, Nat.reduceEqDiff, Nat.reduceAdd, false_and, and_false, true_and, and_true, reduceIte, nZ0, nZ1, eτ0_70.1, eτ0_70.2, eτ0_71.1, eτ0_71.2, fun a k => (jτ0 a k).1, fun a k => (jτ0 a k).2, pτ0]) <;> (first | omega | with_reducible assumption | (unfold rng; omega) | (unfold rng; (repeat' split) <;> omega) | grind)
                · rename_i hc84
                  skip
                  unfold w_X16_growSpans_87
                  try simp only [forall_eq, rII, rIJ, rIP, rJJ, rJI, rJP, rPP, rPI, rPJ, g1, g2, g3, g4, g5, g6, g7, g8, Nat.reduceEqDiff, Nat.reduceAdd, false_and, and_false, true_and, and_true, reduceIte, nZ0, nZ1, eτ0_70.1, eτ0_70.2, eτ0_71.1, eτ0_71.2, fun a k => (jτ0 a k).1, fun a k => (jτ0 a k).2, pτ0]
                  refine ⟨by (first | omega | with_reducible assumption | (unfold rng; omega) | (unfold rng; (repeat' split) <;> omega) | grind), ?_⟩
                  refine ⟨by (first | omega | with_reducible assumption | (unfold rng; omega) | (unfold rng; (repeat' split) <;> omega) | grind), ?_⟩
                  split
                  · rename_i hc102
                    skip
                    unfold w_X16_growSpans_127
                    try simp only [forall_eq, rII, rIJ, rIP, rJJ, rJI, rJP, rPP, rPI, rPJ, g1, g2, g3, g4, g5, g6, g7, g8, Nat.reduceEqDiff, Nat.reduceAdd, false_and, and_false, true_and, and_true, reduceIte, nZ0, nZ1, eτ0_70.1, eτ0_70.2, eτ0_71.1, eτ0_71.2, fun a k => (jτ0 a k).1, fun a k => (jτ0 a k).2, pτ0]
                    refine ⟨by (first | omega | with_reducible assumption | (unfold rng; omega) | (unfold rng; (repeat' split) <;> omega) | grind), ?_⟩
                    have q6 := rτ0.1 75 (v6.toNat); simp only [rgT] at q6
                    refine ih11 _ _ ?_ ?_
                    · (try simp only [rII, rIJ, rIP, rJJ, rJI, rJP, rPP, rPI, rPJ, g1, g2, g3, g4, g5, g6, g7, g8, Nat.reduceEqDiff, Nat.reduceAdd, false_and, and_false, true_and, and_true, reduceIte, nZ0, nZ1, eτ0_70.1, eτ0_70.2, eτ0_71.1, eτ0_71.2, fun a k => (jτ0 a k).1, fun a k => (jτ0 a k).2, pτ0]) <;> first | omega | grind
                    · (try simp only [rII, rIJ, rIP, rJJ, rJI, rJP, rPP, rPI, rPJ, g1, g2, g3, g4, g5, g6, g7, g8, Nat.reduceEqDiff, Nat.reduceAdd, false_and, and_false, true_and, and_true, reduceIte, nZ0, nZ1, eτ0_70.1, eτ0_70.2, eτ0_71.1, eτ0_71.2, fun a k => (jτ0 a k).1, fun a k => (jτ0 a k).2, pτ0]) <;> (first | omega | with_reducible assumption | (unfold rng; omega) | (unfold rng; (repeat' split) <;> omega) | grind)
                  · rename_i hc102
                    skip
                    unfold w_X16_growSpans_105
                    try simp only [forall_eq, rII, rIJ, rIP, rJJ, rJI, rJP, rPP, rPI, rPJ, g1, g2, g3, g4, g5, g6, g7, g8, Nat.reduceEqDiff, Nat.reduceAdd, false_and, and_false, true_and, and_true, reduceIte, nZ0, nZ1, eτ0_70.1, eτ0_70.2, eτ0_71.1, eτ0_71.2, fun a k => (jτ0 a k).1, fun a k => (jτ0 a k).2, pτ0]
                    refine ⟨by (first | omega | with_reducible assumption | (unfold rng; omega) | (unfold rng; (repeat' split) <;> omega) | grind), ?_⟩
                    refine ⟨by (first | omega | with_reducible assumption | (unfold rng; omega) | (unfold rng; (repeat' split) <;> omega) | grind), ?_⟩
                    split
                    · rename_i hc120
                      skip
                      unfold w_X16_growSpans_127
                      try simp only [forall_eq, rII, rIJ, rIP, rJJ, rJI, rJP, rPP, rPI, rPJ, g1, g2, g3, g4, g5, g6, g7, g8, Nat.reduceEqDiff, Nat.reduceAdd, false_and, and_false, true_and, and_true, reduceIte, nZ0, nZ1, eτ0_70.1, eτ0_70.2, eτ0_71.1, eτ0_71.2, fun a k => (jτ0 a k).1, fun a k => (jτ0 a k).2, pτ0]
                      refine ⟨by (first | omega | with_reducible assumption | (unfold rng; omega) | (unfold rng; (repeat' split) <;> omega) | grind), ?_⟩
                      have q7 := rτ0.1 75 (v6.toNat); simp only [rgT] at q7
                      refine ih11 _ _ ?_ ?_
                      · (try simp only [rII, rIJ, rIP, rJJ, rJI, rJP, rPP, rPI, rPJ, g1, g2, g3, g4, g5, g6, g7, g8, Nat.reduceEqDiff, Nat.reduceAdd, false_and, and_false, true_and, and_true, reduceIte, nZ0, nZ1, eτ0_70.1, eτ0_70.2, eτ0_71.1, eτ0_71.2, fun a k => (jτ0 a k).1, fun a k => (jτ0 a k).2, pτ0]) <;> first | omega | grind
                      · (try simp only [rII, rIJ, rIP, rJJ, rJI, rJP, rPP, rPI, rPJ, g1, g2, g3, g4, g5, g6, g7, g8, Nat.reduceEqDiff, Nat.reduceAdd, false_and, and_false, true_and, and_true, reduceIte, nZ0, nZ1, eτ0_70.1, eτ0_70.2, eτ0_71.1, eτ0_71.2, fun a k => (jτ0 a k).1, fun a k => (jτ0 a k).2, pτ0]) <;> (first | omega | with_reducible assumption | (unfold rng; omega) | (unfold rng; (repeat' split) <;> omega) | grind)
                    · rename_i hc120
                      skip
                      unfold w_X16_growSpans_123
                      try simp only [forall_eq, rII, rIJ, rIP, rJJ, rJI, rJP, rPP, rPI, rPJ, g1, g2, g3, g4, g5, g6, g7, g8, Nat.reduceEqDiff, Nat.reduceAdd, false_and, and_false, true_and, and_true, reduceIte, nZ0, nZ1, eτ0_70.1, eτ0_70.2, eτ0_71.1, eτ0_71.2, fun a k => (jτ0 a k).1, fun a k => (jτ0 a k).2, pτ0]
                      unfold w_X16_growSpans_127
                      try simp only [forall_eq, rII, rIJ, rIP, rJJ, rJI, rJP, rPP, rPI, rPJ, g1, g2, g3, g4, g5, g6, g7, g8, Nat.reduceEqDiff, Nat.reduceAdd, false_and, and_false, true_and, and_true, reduceIte, nZ0, nZ1, eτ0_70.1, eτ0_70.2, eτ0_71.1, eτ0_71.2, fun a k => (jτ0 a k).1, fun a k => (jτ0 a k).2, pτ0]
                      refine ⟨by (first | omega | with_reducible assumption | (unfold rng; omega) | (unfold rng; (repeat' split) <;> omega) | grind), ?_⟩
                      have q8 := rτ0.1 75 (v6.toNat); simp only [rgT] at q8
                      refine ih11 _ _ ?_ ?_
                      · (try simp only [rII, rIJ, rIP, rJJ, rJI, rJP, rPP, rPI, rPJ, g1, g2, g3, g4, g5, g6, g7, g8, Nat.reduceEqDiff, Nat.reduceAdd, false_and, and_false, true_and, and_true, reduceIte, nZ0, nZ1, eτ0_70.1, eτ0_70.2, eτ0_71.1, eτ0_71.2, fun a k => (jτ0 a k).1, fun a k => (jτ0 a k).2, pτ0]) <;> first | omega | grind
                      · (try simp only [rII, rIJ, rIP, rJJ, rJI, rJP, rPP, rPI, rPJ, g1, g2, g3, g4, g5, g6, g7, g8, Nat.reduceEqDiff, Nat.reduceAdd, false_and, and_false, true_and, and_true, reduceIte, nZ0, nZ1, eτ0_70.1, eτ0_70.2, eτ0_71.1, eτ0_71.2, fun a k => (jτ0 a k).1, fun a k => (jτ0 a k).2, pτ0]) <;> (first | omega | with_reducible assumption | (unfold rng; omega) | (unfold rng; (repeat' split) <;> omega) | grind)
      refine ⟨_, L11 _ _ _ ?_ (Nat.lt_succ_self _)⟩
      · (try simp only [rII, rIJ, rIP, rJJ, rJI, rJP, rPP, rPI, rPJ, g1, g2, g3, g4, g5, g6, g7, g8, Nat.reduceEqDiff, Nat.reduceAdd, false_and, and_false, true_and, and_true, reduceIte, nZ0, nZ1, eτ0_70.1, eτ0_70.2, eτ0_71.1, eτ0_71.2, fun a k => (jτ0 a k).1, fun a k => (jτ0 a k).2, pτ0]) <;> first | omega | grind
  refine ⟨_, L0 _ _ ?_ ?_ ?_ (Nat.lt_succ_self _)⟩
  · exact rσ
  · exact fσ
  · first | exact ⟨hre, hth⟩ | exact ⟨⟨_, _, p9.1.1, p9.2.1⟩, p9.2.2⟩
set_option maxHeartbeats 4000000 in
theorem s_X16_growGaps {ra : Nat → Nat} {jx : Nat → Nat → Nat} {rm : Nat} {ja : Nat} (g : Geo ra jx rm) {σ : Sg} {v1 : Int} {v2 : Int} {v3 : Int64} (rσ : Rg ra jx rm σ) (hj : gP σ rm 17 = some ja) (hja : ja = ra 15 ∨ ja = ra 16) (hre : RecE ra jx rm ja σ) (hth : ThE ra rm σ) (h1 : 0 ≤ v1 ∧ v1 < 64) (h2 : 0 ≤ v2 ∧ v2 < 16) (h3 : v3.toInt ≤ 4611686018427387904) (hp : 1 ≤ gI σ rm 33) {Q : Sg → Unit → Prop} {X : Sg → String → Prop} (hQ : ∀ (σ' : Sg) (r : Unit), Rg ra jx rm σ' → Fr ra jx rm [46, 47, 48, 49, 60, 61, 62, 63, 64, 65, 75, 76, 77, 78, 82] [66, 67, 79, 80] σ σ' → (RecE ra jx rm ja σ' ∧ ThE ra rm σ') → Q σ' r) (hX : ∀ (σ' : Sg) (E : String), Rg ra jx rm σ' → Fr ra jx rm [46, 47, 48, 49, 60, 61, 62, 63, 64, 65, 75, 76, 77, 78, 82] [66, 67, 79, 80] σ σ' → (E = "StreamHouseModel$Broken" ∧ ThE ra rm σ' ∧ RecE ra jx rm ja σ') → X σ' E) : wp_X16_growGaps ra jx rm v1 v2 v3 σ Q X := by
  obtain ⟨g1, g2, g3, g4, g5, g6, g7, g8⟩ := id g
  have fσ : Fr ra jx rm [46, 47, 48, 49, 60, 61, 62, 63, 64, 65, 75, 76, 77, 78, 82] [66, 67, 79, 80] σ σ := Fr.rf
  unfold wp_X16_growGaps
  have L0 : ∀ (fu0 : Nat) (τ0 : Sg), Rg ra jx rm τ0 → Fr ra jx rm [46, 47, 48, 49, 60, 61, 62, 63, 64, 65, 75, 76, 77, 78, 82] [66, 67, 79, 80] σ τ0 → (RecE ra jx rm ja τ0 ∧ ThE ra rm τ0) → ((gI τ0 (ra 78) v1.toNat).toNat) < fu0 → wl_X16_growGaps_0 ra jx rm Q X fu0 τ0 v1 v2 v3 := by
    intro fu0
    induction fu0 with
    | zero => intro τ0 _ _ _ h9; omega
    | succ fu0 ih0 =>
      intro τ0 rτ0 fτ0 hi0 hm0
      unfold wl_X16_growGaps_0
      have eτ0_70 := fτ0.1 70 (by decide)
      have eτ0_71 := fτ0.1 71 (by decide)
      have eτ0_72 := fτ0.1 72 (by decide)
      have jτ0 := fτ0.2.2.1
      have pτ0 := fτ0.2.2.2
      unfold w_X16_growGaps_0
      try simp only [forall_eq, rII, rIJ, rIP, rJJ, rJI, rJP, rPP, rPI, rPJ, g1, g2, g3, g4, g5, g6, g7, g8, Nat.reduceEqDiff, Nat.reduceAdd, false_and, and_false, true_and, and_true, reduceIte, nZ0, nZ1, eτ0_70.1, eτ0_70.2, eτ0_71.1, eτ0_71.2, eτ0_72.1, eτ0_72.2, fun a k => (jτ0 a k).1, fun a k => (jτ0 a k).2, pτ0]
      obtain ⟨⟨own, ps, hr, hm⟩, hth0⟩ := hi0
      have hhd := hr.hd h1
      refine ⟨by (first | omega | with_reducible assumption | (unfold rng; omega) | (unfold rng; (repeat' split) <;> omega) | grind), ?_⟩
      have q1 := rτ0.1 76 (v1.toNat); simp only [rgT] at q1
      have L11 : ∀ (fu11 : Nat) (v5 : Int) (v6 : Int), ((v6 = -1 ∨ own v6 = v1) ∧ (v5 = -1 ∨ (own v5 = v1 ∧ ¬ ((gJ σ (ra 72) v5.toNat + gJ σ (jx ja 8) v2.toNat - 1) > v3)))) → ((if v6 < 0 then 0 else gI τ0 (ra 78) v1.toNat - ps v6).toNat) < fu11 → wl_X16_growGaps_11 ra jx rm (wl_X16_growGaps_0 ra jx rm Q X fu0) Q X fu11 τ0 v1 v2 v3 v5 v6 := by
        intro fu11
        induction fu11 with
        | zero => intro  _ _ _ h9; omega
        | succ fu11 ih11 =>
          intro v5 v6 hi11 hm11
          unfold wl_X16_growGaps_11
          unfold w_X16_growGaps_11
          try simp only [forall_eq, rII, rIJ, rIP, rJJ, rJI, rJP, rPP, rPI, rPJ, g1, g2, g3, g4, g5, g6, g7, g8, Nat.reduceEqDiff, Nat.reduceAdd, false_and, and_false, true_and, and_true, reduceIte, nZ0, nZ1, eτ0_70.1, eτ0_70.2, eτ0_71.1, eτ0_71.2, eτ0_72.1, eτ0_72.2, fun a k => (jτ0 a k).1, fun a k => (jτ0 a k).2, pτ0]
          split
          · rename_i hc14
            skip
            unfold w_X16_growGaps_165
            try simp only [forall_eq, rII, rIJ, rIP, rJJ, rJI, rJP, rPP, rPI, rPJ, g1, g2, g3, g4, g5, g6, g7, g8, Nat.reduceEqDiff, Nat.reduceAdd, false_and, and_false, true_and, and_true, reduceIte, nZ0, nZ1, eτ0_70.1, eτ0_70.2, eτ0_71.1, eτ0_71.2, eτ0_72.1, eτ0_72.2, fun a k => (jτ0 a k).1, fun a k => (jτ0 a k).2, pτ0]
            split
            · rename_i hc168
              skip
              unfold w_X16_growGaps_198
              try simp only [forall_eq, rII, rIJ, rIP, rJJ, rJI, rJP, rPP, rPI, rPJ, g1, g2, g3, g4, g5, g6, g7, g8, Nat.reduceEqDiff, Nat.reduceAdd, false_and, and_false, true_and, and_true, reduceIte, nZ0, nZ1, eτ0_70.1, eτ0_70.2, eτ0_71.1, eτ0_71.2, eτ0_72.1, eτ0_72.2, fun a k => (jτ0 a k).1, fun a k => (jτ0 a k).2, pτ0]
              rw [if_neg (show ¬ (v5 ≠ (-1)) by omega)]
              unfold w_X16_growGaps_204
              try simp only [forall_eq, rII, rIJ, rIP, rJJ, rJI, rJP, rPP, rPI, rPJ, g1, g2, g3, g4, g5, g6, g7, g8, Nat.reduceEqDiff, Nat.reduceAdd, false_and, and_false, true_and, and_true, reduceIte, nZ0, nZ1, eτ0_70.1, eτ0_70.2, eτ0_71.1, eτ0_71.2, eτ0_72.1, eτ0_72.2, fun a k => (jτ0 a k).1, fun a k => (jτ0 a k).2, pτ0]
              refine hQ _ _ ?_ ?_ ?_
              · exact rτ0
              · exact fτ0
              · exact ⟨⟨_, _, hr, hm⟩, hth0⟩
            · rename_i hc168
              skip
              unfold w_X16_growGaps_171
              try simp only [forall_eq, rII, rIJ, rIP, rJJ, rJI, rJP, rPP, rPI, rPJ, g1, g2, g3, g4, g5, g6, g7, g8, Nat.reduceEqDiff, Nat.reduceAdd, false_and, and_false, true_and, and_true, reduceIte, nZ0, nZ1, eτ0_70.1, eτ0_70.2, eτ0_71.1, eτ0_71.2, eτ0_72.1, eτ0_72.2, fun a k => (jτ0 a k).1, fun a k => (jτ0 a k).2, pτ0]
              have ho5 := hi11.2.resolve_left (by assumption)
              have n5 := hr.nd ho5.1 h1
              refine ⟨by (first | omega | with_reducible assumption | (unfold rng; omega) | (unfold rng; (repeat' split) <;> omega) | grind), ?_⟩
              refine ⟨ja, by exact hj, hja, ?_⟩
              refine ⟨by (first | omega | with_reducible assumption | (unfold rng; omega) | (unfold rng; (repeat' split) <;> omega) | grind), ?_⟩
              refine s_X16_emitFold (own := own) (ps := ps) g rτ0 (by first | exact hj | (rw [fτ0.2.2.2]; exact hj)) hja hr hm hth0 (by (try simp only [rII, rIJ, rIP, rJJ, rJI, rJP, rPP, rPI, rPJ, g1, g2, g3, g4, g5, g6, g7, g8, Nat.reduceEqDiff, Nat.reduceAdd, false_and, and_false, true_and, and_true, reduceIte, nZ0, nZ1, eτ0_70.1, eτ0_70.2, eτ0_71.1, eτ0_71.2, eτ0_72.1, eτ0_72.2, fun a k => (jτ0 a k).1, fun a k => (jτ0 a k).2, pτ0]) <;> (first | omega | with_reducible assumption | (unfold rng; omega) | (unfold rng; (repeat' split) <;> omega) | grind)) (by (try simp only [rII, rIJ, rIP, rJJ, rJI, rJP, rPP, rPI, rPJ, g1, g2, g3, g4, g5, g6, g7, g8, Nat.reduceEqDiff, Nat.reduceAdd, false_and, and_false, true_and, and_true, reduceIte, nZ0, nZ1, eτ0_70.1, eτ0_70.2, eτ0_71.1, eτ0_71.2, eτ0_72.1, eτ0_72.2, fun a k => (jτ0 a k).1, fun a k => (jτ0 a k).2, pτ0]) <;> (first | omega | with_reducible assumption | (unfold rng; omega) | (unfold rng; (repeat' split) <;> omega) | grind)) ho5.1 (by have w9 := i64_le ho5.2; (try simp only [rII, rIJ, rIP, rJJ, rJI, rJP, rPP, rPI, rPJ, g1, g2, g3, g4, g5, g6, g7, g8, Nat.reduceEqDiff, Nat.reduceAdd, false_and, and_false, true_and, and_true, reduceIte, nZ0, nZ1, eτ0_70.1, eτ0_70.2, eτ0_71.1, eτ0_71.2, eτ0_72.1, eτ0_72.2, fun a k => (jτ0 a k).1, fun a k => (jτ0 a k).2, pτ0]) <;> omega) (by (try simp only [rII, rIJ, rIP, rJJ, rJI, rJP, rPP, rPI, rPJ, g1, g2, g3, g4, g5, g6, g7, g8, Nat.reduceEqDiff, Nat.reduceAdd, false_and, and_false, true_and, and_true, reduceIte, nZ0, nZ1, eτ0_70.1, eτ0_70.2, eτ0_71.1, eτ0_71.2, eτ0_72.1, eτ0_72.2, fun a k => (jτ0 a k).1, fun a k => (jτ0 a k).2, pτ0]) <;> first | exact hp | (rw [(fτ0.2.1 33 (by decide)).1]; exact hp)) (fun σ8 _ rσ8 fc p2 => ?_) (fun σx E rx fx px => hX _ _ rx (Fr.tr fτ0 (Fr.mor (fx) (by decide) (by decide))) px)
              have fσ8 : Fr ra jx rm [46, 47, 48, 49, 60, 61, 62, 63, 64, 65, 75, 76, 77, 78, 82] [66, 67, 79, 80] σ σ8 := Fr.tr fτ0 (Fr.mor (fc) (by decide) (by decide))
              have p9 := p2
              have m9 := p9.1.2
              have eσ8_70 := fσ8.1 70 (by decide)
              have eσ8_71 := fσ8.1 71 (by decide)
              have eσ8_72 := fσ8.1 72 (by decide)
              have jσ8 := fσ8.2.2.1
              have pσ8 := fσ8.2.2.2
              try simp only [forall_eq, rII, rIJ, rIP, rJJ, rJI, rJP, rPP, rPI, rPJ, g1, g2, g3, g4, g5, g6, g7, g8, Nat.reduceEqDiff, Nat.reduceAdd, false_and, and_false, true_and, and_true, reduceIte, nZ0, nZ1, eσ8_70.1, eσ8_70.2, eσ8_71.1, eσ8_71.2, eσ8_72.1, eσ8_72.2, fun a k => (jσ8 a k).1, fun a k => (jσ8 a k).2, pσ8]
              unfold w_X16_growGaps_198
              try simp only [forall_eq, rII, rIJ, rIP, rJJ, rJI, rJP, rPP, rPI, rPJ, g1, g2, g3, g4, g5, g6, g7, g8, Nat.reduceEqDiff, Nat.reduceAdd, false_and, and_false, true_and, and_true, reduceIte, nZ0, nZ1, eσ8_70.1, eσ8_70.2, eσ8_71.1, eσ8_71.2, eσ8_72.1, eσ8_72.2, fun a k => (jσ8 a k).1, fun a k => (jσ8 a k).2, pσ8]
              rw [if_pos (show (v5 ≠ (-1)) by omega)]
              refine ih0 _ ?_ ?_ ?_ ?_
              · exact rσ8
              · exact fσ8
              · first | exact ⟨hre, hth⟩ | exact ⟨⟨_, _, p9.1.1, p9.2.1⟩, p9.2.2⟩
              · (try simp only [rII, rIJ, rIP, rJJ, rJI, rJP, rPP, rPI, rPJ, g1, g2, g3, g4, g5, g6, g7, g8, Nat.reduceEqDiff, Nat.reduceAdd, false_and, and_false, true_and, and_true, reduceIte, nZ0, nZ1, eσ8_70.1, eσ8_70.2, eσ8_71.1, eσ8_71.2, eσ8_72.1, eσ8_72.2, fun a k => (jσ8 a k).1, fun a k => (jσ8 a k).2, pσ8]) <;> (first | omega | with_reducible assumption | (unfold rng; omega) | (unfold rng; (repeat' split) <;> omega) | grind)
          · rename_i hc14
            skip
            unfold w_X16_growGaps_17
            try simp only [forall_eq, rII, rIJ, rIP, rJJ, rJI, rJP, rPP, rPI, rPJ, g1, g2, g3, g4, g5, g6, g7, g8, Nat.reduceEqDiff, Nat.reduceAdd, false_and, and_false, true_and, and_true, reduceIte, nZ0, nZ1, eτ0_70.1, eτ0_70.2, eτ0_71.1, eτ0_71.2, eτ0_72.1, eτ0_72.2, fun a k => (jτ0 a k).1, fun a k => (jτ0 a k).2, pτ0]
            have nv6 := hr.nd (hi11.1.resolve_left (by assumption)) h1
            refine ⟨by (first | omega | with_reducible assumption | (unfold rng; omega) | (unfold rng; (repeat' split) <;> omega) | grind), ?_⟩
            refine ⟨ja, by exact hj, hja, ?_⟩
            refine ⟨by (first | omega | with_reducible assumption | (unfold rng; omega) | (unfold rng; (repeat' split) <;> omega) | grind), ?_⟩
            split
            · rename_i hc38
              skip
              unfold w_X16_growGaps_45
              try simp only [forall_eq, rII, rIJ, rIP, rJJ, rJI, rJP, rPP, rPI, rPJ, g1, g2, g3, g4, g5, g6, g7, g8, Nat.reduceEqDiff, Nat.reduceAdd, false_and, and_false, true_and, and_true, reduceIte, nZ0, nZ1, eτ0_70.1, eτ0_70.2, eτ0_71.1, eτ0_71.2, eτ0_72.1, eτ0_72.2, fun a k => (jτ0 a k).1, fun a k => (jτ0 a k).2, pτ0]
              unfold w_X16_growGaps_46
              try simp only [forall_eq, rII, rIJ, rIP, rJJ, rJI, rJP, rPP, rPI, rPJ, g1, g2, g3, g4, g5, g6, g7, g8, Nat.reduceEqDiff, Nat.reduceAdd, false_and, and_false, true_and, and_true, reduceIte, nZ0, nZ1, eτ0_70.1, eτ0_70.2, eτ0_71.1, eτ0_71.2, eτ0_72.1, eτ0_72.2, fun a k => (jτ0 a k).1, fun a k => (jτ0 a k).2, pτ0]
              try rw [if_pos (by decide)]
              unfold w_X16_growGaps_153
              try simp only [forall_eq, rII, rIJ, rIP, rJJ, rJI, rJP, rPP, rPI, rPJ, g1, g2, g3, g4, g5, g6, g7, g8, Nat.reduceEqDiff, Nat.reduceAdd, false_and, and_false, true_and, and_true, reduceIte, nZ0, nZ1, eτ0_70.1, eτ0_70.2, eτ0_71.1, eτ0_71.2, eτ0_72.1, eτ0_72.2, fun a k => (jτ0 a k).1, fun a k => (jτ0 a k).2, pτ0]
              refine ⟨by (first | omega | with_reducible assumption | (unfold rng; omega) | (unfold rng; (repeat' split) <;> omega) | grind), ?_⟩
              have q3 := rτ0.1 75 (v6.toNat); simp only [rgT] at q3
              refine ih11 _ _ ?_ ?_
              · (try simp only [rII, rIJ, rIP, rJJ, rJI, rJP, rPP, rPI, rPJ, g1, g2, g3, g4, g5, g6, g7, g8, Nat.reduceEqDiff, Nat.reduceAdd, false_and, and_false, true_and, and_true, reduceIte, nZ0, nZ1, eτ0_70.1, eτ0_70.2, eτ0_71.1, eτ0_71.2, eτ0_72.1, eτ0_72.2, fun a k => (jτ0 a k).1, fun a k => (jτ0 a k).2, pτ0]) <;> first | omega | grind
              · (try simp only [rII, rIJ, rIP, rJJ, rJI, rJP, rPP, rPI, rPJ, g1, g2, g3, g4, g5, g6, g7, g8, Nat.reduceEqDiff, Nat.reduceAdd, false_and, and_false, true_and, and_true, reduceIte, nZ0, nZ1, eτ0_70.1, eτ0_70.2, eτ0_71.1, eτ0_71.2, eτ0_72.1, eτ0_72.2, fun a k => (jτ0 a k).1, fun a k => (jτ0 a k).2, pτ0]) <;> (first | omega | with_reducible assumption | (unfold rng; omega) | (unfold rng; (repeat' split) <;> omega) | grind)
            · rename_i hc38
              skip
              unfold w_X16_growGaps_41
              try simp only [forall_eq, rII, rIJ, rIP, rJJ, rJI, rJP, rPP, rPI, rPJ, g1, g2, g3, g4, g5, g6, g7, g8, Nat.reduceEqDiff, Nat.reduceAdd, false_and, and_false, true_and, and_true, reduceIte, nZ0, nZ1, eτ0_70.1, eτ0_70.2, eτ0_71.1, eτ0_71.2, eτ0_72.1, eτ0_72.2, fun a k => (jτ0 a k).1, fun a k => (jτ0 a k).2, pτ0]
              unfold w_X16_growGaps_46
              try simp only [forall_eq, rII, rIJ, rIP, rJJ, rJI, rJP, rPP, rPI, rPJ, g1, g2, g3, g4, g5, g6, g7, g8, Nat.reduceEqDiff, Nat.reduceAdd, false_and, and_false, true_and, and_true, reduceIte, nZ0, nZ1, eτ0_70.1, eτ0_70.2, eτ0_71.1, eτ0_71.2, eτ0_72.1, eτ0_72.2, fun a k => (jτ0 a k).1, fun a k => (jτ0 a k).2, pτ0]
              try rw [if_neg (by decide)]
              unfold w_X16_growGaps_53
              try simp only [forall_eq, rII, rIJ, rIP, rJJ, rJI, rJP, rPP, rPI, rPJ, g1, g2, g3, g4, g5, g6, g7, g8, Nat.reduceEqDiff, Nat.reduceAdd, false_and, and_false, true_and, and_true, reduceIte, nZ0, nZ1, eτ0_70.1, eτ0_70.2, eτ0_71.1, eτ0_71.2, eτ0_72.1, eτ0_72.2, fun a k => (jτ0 a k).1, fun a k => (jτ0 a k).2, pτ0]
              split
              · rename_i hc56
                skip
                unfold w_X16_growGaps_149
                try simp only [forall_eq, rII, rIJ, rIP, rJJ, rJI, rJP, rPP, rPI, rPJ, g1, g2, g3, g4, g5, g6, g7, g8, Nat.reduceEqDiff, Nat.reduceAdd, false_and, and_false, true_and, and_true, reduceIte, nZ0, nZ1, eτ0_70.1, eτ0_70.2, eτ0_71.1, eτ0_71.2, eτ0_72.1, eτ0_72.2, fun a k => (jτ0 a k).1, fun a k => (jτ0 a k).2, pτ0]
                unfold w_X16_growGaps_153
                try simp only [forall_eq, rII, rIJ, rIP, rJJ, rJI, rJP, rPP, rPI, rPJ, g1, g2, g3, g4, g5, g6, g7, g8, Nat.reduceEqDiff, Nat.reduceAdd, false_and, and_false, true_and, and_true, reduceIte, nZ0, nZ1, eτ0_70.1, eτ0_70.2, eτ0_71.1, eτ0_71.2, eτ0_72.1, eτ0_72.2, fun a k => (jτ0 a k).1, fun a k => (jτ0 a k).2, pτ0]
                refine ⟨by (first | omega | with_reducible assumption | (unfold rng; omega) | (unfold rng; (repeat' split) <;> omega) | grind), ?_⟩
                have q4 := rτ0.1 75 (v6.toNat); simp only [rgT] at q4
                refine ih11 _ _ ?_ ?_
                · (try simp only [rII, rIJ, rIP, rJJ, rJI, rJP, rPP, rPI, rPJ, g1, g2, g3, g4, g5, g6, g7, g8, Nat.reduceEqDiff, Nat.reduceAdd, false_and, and_false, true_and, and_true, reduceIte, nZ0, nZ1, eτ0_70.1, eτ0_70.2, eτ0_71.1, eτ0_71.2, eτ0_72.1, eτ0_72.2, fun a k => (jτ0 a k).1, fun a k => (jτ0 a k).2, pτ0]) <;> first | omega | grind
                · (try simp only [rII, rIJ, rIP, rJJ, rJI, rJP, rPP, rPI, rPJ, g1, g2, g3, g4, g5, g6, g7, g8, Nat.reduceEqDiff, Nat.reduceAdd, false_and, and_false, true_and, and_true, reduceIte, nZ0, nZ1, eτ0_70.1, eτ0_70.2, eτ0_71.1, eτ0_71.2, eτ0_72.1, eτ0_72.2, fun a k => (jτ0 a k).1, fun a k => (jτ0 a k).2, pτ0]) <;> (first | omega | with_reducible assumption | (unfold rng; omega) | (unfold rng; (repeat' split) <;> omega) | grind)
              · rename_i hc56
                skip
                unfold w_X16_growGaps_59
                try simp only [forall_eq, rII, rIJ, rIP, rJJ, rJI, rJP, rPP, rPI, rPJ, g1, g2, g3, g4, g5, g6, g7, g8, Nat.reduceEqDiff, Nat.reduceAdd, false_and, and_false, true_and, and_true, reduceIte, nZ0, nZ1, eτ0_70.1, eτ0_70.2, eτ0_71.1, eτ0_71.2, eτ0_72.1, eτ0_72.2, fun a k => (jτ0 a k).1, fun a k => (jτ0 a k).2, pτ0]
                have ho5 := hi11.2.resolve_left (by assumption)
                have n5 := hr.nd ho5.1 h1
                refine ⟨by (first | omega | with_reducible assumption | (unfold rng; omega) | (unfold rng; (repeat' split) <;> omega) | grind), ?_⟩
                refine ⟨by (first | omega | with_reducible assumption | (unfold rng; omega) | (unfold rng; (repeat' split) <;> omega) | grind), ?_⟩
                split
                · rename_i hc74
                  skip
                  unfold w_X16_growGaps_149
                  try simp only [forall_eq, rII, rIJ, rIP, rJJ, rJI, rJP, rPP, rPI, rPJ, g1, g2, g3, g4, g5, g6, g7, g8, Nat.reduceEqDiff, Nat.reduceAdd, false_and, and_false, true_and, and_true, reduceIte, nZ0, nZ1, eτ0_70.1, eτ0_70.2, eτ0_71.1, eτ0_71.2, eτ0_72.1, eτ0_72.2, fun a k => (jτ0 a k).1, fun a k => (jτ0 a k).2, pτ0]
                  unfold w_X16_growGaps_153
                  try simp only [forall_eq, rII, rIJ, rIP, rJJ, rJI, rJP, rPP, rPI, rPJ, g1, g2, g3, g4, g5, g6, g7, g8, Nat.reduceEqDiff, Nat.reduceAdd, false_and, and_false, true_and, and_true, reduceIte, nZ0, nZ1, eτ0_70.1, eτ0_70.2, eτ0_71.1, eτ0_71.2, eτ0_72.1, eτ0_72.2, fun a k => (jτ0 a k).1, fun a k => (jτ0 a k).2, pτ0]
                  refine ⟨by (first | omega | with_reducible assumption | (unfold rng; omega) | (unfold rng; (repeat' split) <;> omega) | grind), ?_⟩
                  have q5 := rτ0.1 75 (v6.toNat); simp only [rgT] at q5
                  refine ih11 _ _ ?_ ?_
                  · (try simp only [rII, rIJ, rIP, rJJ, rJI, rJP, rPP, rPI, rPJ, g1, g2, g3, g4, g5, g6, g7, g8, Nat.reduceEqDiff, Nat.reduceAdd, false_and, and_false, true_and, and_true, reduceIte, nZ0, nZ1, eτ0_70.1, eτ0_70.2, eτ0_71.1, eτ0_71.2, eτ0_72.1, eτ0_72.2, fun a k => (jτ0 a k).1, fun a k => (jτ0 a k).2, pτ0]) <;> first | omega | grind
                  · (try simp only [rII, rIJ, rIP, rJJ, rJI, rJP, rPP, rPI, rPJ, g1, g2, g3, g4, g5, g6, g7, g8, Nat.reduceEqDiff, Nat.reduceAdd, false_and, and_false, true_and, and_true, reduceIte, nZ0, nZ1, eτ0_70.1, eτ0_70.2, eτ0_71.1, eτ0_71.2, eτ0_72.1, eτ0_72.2, fun a k => (jτ0 a k).1, fun a k => (jτ0 a k).2, pτ0]) <;> (first | omega | with_reducible assumption | (unfold rng; omega) | (unfold rng; (repeat' split) <;> omega) | grind)
                · rename_i hc74
                  skip
                  unfold w_X16_growGaps_77
                  try simp only [forall_eq, rII, rIJ, rIP, rJJ, rJI, rJP, rPP, rPI, rPJ, g1, g2, g3, g4, g5, g6, g7, g8, Nat.reduceEqDiff, Nat.reduceAdd, false_and, and_false, true_and, and_true, reduceIte, nZ0, nZ1, eτ0_70.1, eτ0_70.2, eτ0_71.1, eτ0_71.2, eτ0_72.1, eτ0_72.2, fun a k => (jτ0 a k).1, fun a k => (jτ0 a k).2, pτ0]
                  refine ⟨by (first | omega | with_reducible assumption | (unfold rng; omega) | (unfold rng; (repeat' split) <;> omega) | grind), ?_⟩
                  refine ⟨by (first | omega | with_reducible assumption | (unfold rng; omega) | (unfold rng; (repeat' split) <;> omega) | grind), ?_⟩
                  split
                  · rename_i hc92
                    skip
                    unfold w_X16_growGaps_153
                    try simp only [forall_eq, rII, rIJ, rIP, rJJ, rJI, rJP, rPP, rPI, rPJ, g1, g2, g3, g4, g5, g6, g7, g8, Nat.reduceEqDiff, Nat.reduceAdd, false_and, and_false, true_and, and_true, reduceIte, nZ0, nZ1, eτ0_70.1, eτ0_70.2, eτ0_71.1, eτ0_71.2, eτ0_72.1, eτ0_72.2, fun a k => (jτ0 a k).1, fun a k => (jτ0 a k).2, pτ0]
                    refine ⟨by (first | omega | with_reducible assumption | (unfold rng; omega) | (unfold rng; (repeat' split) <;> omega) | grind), ?_⟩
                    have q6 := rτ0.1 75 (v6.toNat); simp only [rgT] at q6
                    refine ih11 _ _ ?_ ?_
                    · (try simp only [rII, rIJ, rIP, rJJ, rJI, rJP, rPP, rPI, rPJ, g1, g2, g3, g4, g5, g6, g7, g8, Nat.reduceEqDiff, Nat.reduceAdd, false_and, and_false, true_and, and_true, reduceIte, nZ0, nZ1, eτ0_70.1, eτ0_70.2, eτ0_71.1, eτ0_71.2, eτ0_72.1, eτ0_72.2, fun a k => (jτ0 a k).1, fun a k => (jτ0 a k).2, pτ0]) <;> first | omega | grind
                    · (try simp only [rII, rIJ, rIP, rJJ, rJI, rJP, rPP, rPI, rPJ, g1, g2, g3, g4, g5, g6, g7, g8, Nat.reduceEqDiff, Nat.reduceAdd, false_and, and_false, true_and, and_true, reduceIte, nZ0, nZ1, eτ0_70.1, eτ0_70.2, eτ0_71.1, eτ0_71.2, eτ0_72.1, eτ0_72.2, fun a k => (jτ0 a k).1, fun a k => (jτ0 a k).2, pτ0]) <;> (first | omega | with_reducible assumption | (unfold rng; omega) | (unfold rng; (repeat' split) <;> omega) | grind)
                  · rename_i hc92
                    skip
                    unfold w_X16_growGaps_95
                    try simp only [forall_eq, rII, rIJ, rIP, rJJ, rJI, rJP, rPP, rPI, rPJ, g1, g2, g3, g4, g5, g6, g7, g8, Nat.reduceEqDiff, Nat.reduceAdd, false_and, and_false, true_and, and_true, reduceIte, nZ0, nZ1, eτ0_70.1, eτ0_70.2, eτ0_71.1, eτ0_71.2, eτ0_72.1, eτ0_72.2, fun a k => (jτ0 a k).1, fun a k => (jτ0 a k).2, pτ0]
                    refine ⟨by (first | omega | with_reducible assumption | (unfold rng; omega) | (unfold rng; (repeat' split) <;> omega) | grind), ?_⟩
                    refine ⟨by (first | omega | with_reducible assumption | (unfold rng; omega) | (unfold rng; (repeat' split) <;> omega) | grind), ?_⟩
                    split
                    · rename_i hc110
                      skip
                      unfold w_X16_growGaps_149
                      try simp only [forall_eq, rII, rIJ, rIP, rJJ, rJI, rJP, rPP, rPI, rPJ, g1, g2, g3, g4, g5, g6, g7, g8, Nat.reduceEqDiff, Nat.reduceAdd, false_and, and_false, true_and, and_true, reduceIte, nZ0, nZ1, eτ0_70.1, eτ0_70.2, eτ0_71.1, eτ0_71.2, eτ0_72.1, eτ0_72.2, fun a k => (jτ0 a k).1, fun a k => (jτ0 a k).2, pτ0]
                      unfold w_X16_growGaps_153
                      try simp only [forall_eq, rII, rIJ, rIP, rJJ, rJI, rJP, rPP, rPI, rPJ, g1, g2, g3, g4, g5, g6, g7, g8, Nat.reduceEqDiff, Nat.reduceAdd, false_and, and_false, true_and, and_true, reduceIte, nZ0, nZ1, eτ0_70.1, eτ0_70.2, eτ0_71.1, eτ0_71.2, eτ0_72.1, eτ0_72.2, fun a k => (jτ0 a k).1, fun a k => (jτ0 a k).2, pτ0]
                      refine ⟨by (first | omega | with_reducible assumption | (unfold rng; omega) | (unfold rng; (repeat' split) <;> omega) | grind), ?_⟩
                      have q7 := rτ0.1 75 (v6.toNat); simp only [rgT] at q7
                      refine ih11 _ _ ?_ ?_
                      · (try simp only [rII, rIJ, rIP, rJJ, rJI, rJP, rPP, rPI, rPJ, g1, g2, g3, g4, g5, g6, g7, g8, Nat.reduceEqDiff, Nat.reduceAdd, false_and, and_false, true_and, and_true, reduceIte, nZ0, nZ1, eτ0_70.1, eτ0_70.2, eτ0_71.1, eτ0_71.2, eτ0_72.1, eτ0_72.2, fun a k => (jτ0 a k).1, fun a k => (jτ0 a k).2, pτ0]) <;> first | omega | grind
                      · (try simp only [rII, rIJ, rIP, rJJ, rJI, rJP, rPP, rPI, rPJ, g1, g2, g3, g4, g5, g6, g7, g8, Nat.reduceEqDiff, Nat.reduceAdd, false_and, and_false, true_and, and_true, reduceIte, nZ0, nZ1, eτ0_70.1, eτ0_70.2, eτ0_71.1, eτ0_71.2, eτ0_72.1, eτ0_72.2, fun a k => (jτ0 a k).1, fun a k => (jτ0 a k).2, pτ0]) <;> (first | omega | with_reducible assumption | (unfold rng; omega) | (unfold rng; (repeat' split) <;> omega) | grind)
                    · rename_i hc110
                      skip
                      unfold w_X16_growGaps_113
                      try simp only [forall_eq, rII, rIJ, rIP, rJJ, rJI, rJP, rPP, rPI, rPJ, g1, g2, g3, g4, g5, g6, g7, g8, Nat.reduceEqDiff, Nat.reduceAdd, false_and, and_false, true_and, and_true, reduceIte, nZ0, nZ1, eτ0_70.1, eτ0_70.2, eτ0_71.1, eτ0_71.2, eτ0_72.1, eτ0_72.2, fun a k => (jτ0 a k).1, fun a k => (jτ0 a k).2, pτ0]
                      refine ⟨by (first | omega | with_reducible assumption | (unfold rng; omega) | (unfold rng; (repeat' split) <;> omega) | grind), ?_⟩
                      refine ⟨by (first | omega | with_reducible assumption | (unfold rng; omega) | (unfold rng; (repeat' split) <;> omega) | grind), ?_⟩
                      split
                      · rename_i hc128
                        skip
                        unfold w_X16_growGaps_153
                        try simp only [forall_eq, rII, rIJ, rIP, rJJ, rJI, rJP, rPP, rPI, rPJ, g1, g2, g3, g4, g5, g6, g7, g8, Nat.reduceEqDiff, Nat.reduceAdd, false_and, and_false, true_and, and_true, reduceIte, nZ0, nZ1, eτ0_70.1, eτ0_70.2, eτ0_71.1, eτ0_71.2, eτ0_72.1, eτ0_72.2, fun a k => (jτ0 a k).1, fun a k => (jτ0 a k).2, pτ0]
                        refine ⟨by (first | omega | with_reducible assumption | (unfold rng; omega) | (unfold rng; (repeat' split) <;> omega) | grind), ?_⟩
                        have q8 := rτ0.1 75 (v6.toNat); simp only [rgT] at q8
                        refine ih11 _ _ ?_ ?_
                        · (try simp only [rII, rIJ, rIP, rJJ, rJI, rJP, rPP, rPI, rPJ, g1, g2, g3, g4, g5, g6, g7, g8, Nat.reduceEqDiff, Nat.reduceAdd, false_and, and_false, true_and, and_true, reduceIte, nZ0, nZ1, eτ0_70.1, eτ0_70.2, eτ0_71.1, eτ0_71.2, eτ0_72.1, eτ0_72.2, fun a k => (jτ0 a k).1, fun a k => (jτ0 a k).2, pτ0]) <;> first | omega | grind
                        · (try simp only [rII, rIJ, rIP, rJJ, rJI, rJP, rPP, rPI, rPJ, g1, g2, g3, g4, g5, g6, g7, g8, Nat.reduceEqDiff, Nat.reduceAdd, false_and, and_false, true_and, and_true, reduceIte, nZ0, nZ1, eτ0_70.1, eτ0_70.2, eτ0_71.1, eτ0_71.2, eτ0_72.1, eτ0_72.2, fun a k => (jτ0 a k).1, fun a k => (jτ0 a k).2, pτ0]) <;> (first | omega | with_reducible assumption | (unfold rng; omega) | (unfold rng; (repeat' split) <;> omega) | grind)
                      · rename_i hc128
                        skip
                        unfold w_X16_growGaps_131
                        try simp only [forall_eq, rII, rIJ, rIP, rJJ, rJI, rJP, rPP, rPI, rPJ, g1, g2, g3, g4, g5, g6, g7, g8, Nat.reduceEqDiff, Nat.reduceAdd, false_and, and_false, true_and, and_true, reduceIte, nZ0, nZ1, eτ0_70.1, eτ0_70.2, eτ0_71.1, eτ0_71.2, eτ0_72.1, eτ0_72.2, fun a k => (jτ0 a k).1, fun a k => (jτ0 a k).2, pτ0]
                        refine ⟨by (first | omega | with_reducible assumption | (unfold rng; omega) | (unfold rng; (repeat' split) <;> omega) | grind), ?_⟩
                        refine ⟨by (first | omega | with_reducible assumption | (unfold rng; omega) | (unfold rng; (repeat' split) <;> omega) | grind), ?_⟩
                        split
                        · rename_i hc146
                          skip
                          unfold w_X16_growGaps_153
                          try simp only [forall_eq, rII, rIJ, rIP, rJJ, rJI, rJP, rPP, rPI, rPJ, g1, g2, g3, g4, g5, g6, g7, g8, Nat.reduceEqDiff, Nat.reduceAdd, false_and, and_false, true_and, and_true, reduceIte, nZ0, nZ1, eτ0_70.1, eτ0_70.2, eτ0_71.1, eτ0_71.2, eτ0_72.1, eτ0_72.2, fun a k => (jτ0 a k).1, fun a k => (jτ0 a k).2, pτ0]
                          refine ⟨by (first | omega | with_reducible assumption | (unfold rng; omega) | (unfold rng; (repeat' split) <;> omega) | grind), ?_⟩
                          have q9 := rτ0.1 75 (v6.toNat); simp only [rgT] at q9
                          refine ih11 _ _ ?_ ?_
                          · (try simp only [rII, rIJ, rIP, rJJ, rJI, rJP, rPP, rPI, rPJ, g1, g2, g3, g4, g5, g6, g7, g8, Nat.reduceEqDiff, Nat.reduceAdd, false_and, and_false, true_and, and_true, reduceIte, nZ0, nZ1, eτ0_70.1, eτ0_70.2, eτ0_71.1, eτ0_71.2, eτ0_72.1, eτ0_72.2, fun a k => (jτ0 a k).1, fun a k => (jτ0 a k).2, pτ0]) <;> first | omega | grind
                          · (try simp only [rII, rIJ, rIP, rJJ, rJI, rJP, rPP, rPI, rPJ, g1, g2, g3, g4, g5, g6, g7, g8, Nat.reduceEqDiff, Nat.reduceAdd, false_and, and_false, true_and, and_true, reduceIte, nZ0, nZ1, eτ0_70.1, eτ0_70.2, eτ0_71.1, eτ0_71.2, eτ0_72.1, eτ0_72.2, fun a k => (jτ0 a k).1, fun a k => (jτ0 a k).2, pτ0]) <;> (first | omega | with_reducible assumption | (unfold rng; omega) | (unfold rng; (repeat' split) <;> omega) | grind)
                        · rename_i hc146
                          skip
                          unfold w_X16_growGaps_149
                          try simp only [forall_eq, rII, rIJ, rIP, rJJ, rJI, rJP, rPP, rPI, rPJ, g1, g2, g3, g4, g5, g6, g7, g8, Nat.reduceEqDiff, Nat.reduceAdd, false_and, and_false, true_and, and_true, reduceIte, nZ0, nZ1, eτ0_70.1, eτ0_70.2, eτ0_71.1, eτ0_71.2, eτ0_72.1, eτ0_72.2, fun a k => (jτ0 a k).1, fun a k => (jτ0 a k).2, pτ0]
                          unfold w_X16_growGaps_153
                          try simp only [forall_eq, rII, rIJ, rIP, rJJ, rJI, rJP, rPP, rPI, rPJ, g1, g2, g3, g4, g5, g6, g7, g8, Nat.reduceEqDiff, Nat.reduceAdd, false_and, and_false, true_and, and_true, reduceIte, nZ0, nZ1, eτ0_70.1, eτ0_70.2, eτ0_71.1, eτ0_71.2, eτ0_72.1, eτ0_72.2, fun a k => (jτ0 a k).1, fun a k => (jτ0 a k).2, pτ0]
                          refine ⟨by (first | omega | with_reducible assumption | (unfold rng; omega) | (unfold rng; (repeat' split) <;> omega) | grind), ?_⟩
                          have q10 := rτ0.1 75 (v6.toNat); simp only [rgT] at q10
                          refine ih11 _ _ ?_ ?_
                          · (try simp only [rII, rIJ, rIP, rJJ, rJI, rJP, rPP, rPI, rPJ, g1, g2, g3, g4, g5, g6, g7, g8, Nat.reduceEqDiff, Nat.reduceAdd, false_and, and_false, true_and, and_true, reduceIte, nZ0, nZ1, eτ0_70.1, eτ0_70.2, eτ0_71.1, eτ0_71.2, eτ0_72.1, eτ0_72.2, fun a k => (jτ0 a k).1, fun a k => (jτ0 a k).2, pτ0]) <;> first | omega | grind
                          · (try simp only [rII, rIJ, rIP, rJJ, rJI, rJP, rPP, rPI, rPJ, g1, g2, g3, g4, g5, g6, g7, g8, Nat.reduceEqDiff, Nat.reduceAdd, false_and, and_false, true_and, and_true, reduceIte, nZ0, nZ1, eτ0_70.1, eτ0_70.2, eτ0_71.1, eτ0_71.2, eτ0_72.1, eτ0_72.2, fun a k => (jτ0 a k).1, fun a k => (jτ0 a k).2, pτ0]) <;> (first | omega | with_reducible assumption | (unfold rng; omega) | (unfold rng; (repeat' split) <;> omega) | grind)
      refine ⟨_, L11 _ _ _ ?_ (Nat.lt_succ_self _)⟩
      · (try simp only [rII, rIJ, rIP, rJJ, rJI, rJP, rPP, rPI, rPJ, g1, g2, g3, g4, g5, g6, g7, g8, Nat.reduceEqDiff, Nat.reduceAdd, false_and, and_false, true_and, and_true, reduceIte, nZ0, nZ1, eτ0_70.1, eτ0_70.2, eτ0_71.1, eτ0_71.2, eτ0_72.1, eτ0_72.2, fun a k => (jτ0 a k).1, fun a k => (jτ0 a k).2, pτ0]) <;> first | omega | grind
  refine ⟨_, L0 _ _ ?_ ?_ ?_ (Nat.lt_succ_self _)⟩
  · exact rσ
  · exact fσ
  · first | exact ⟨hre, hth⟩ | exact ⟨⟨_, _, p9.1.1, p9.2.1⟩, p9.2.2⟩
set_option maxHeartbeats 8000000 in
theorem s_X16_growLook {ra : Nat → Nat} {jx : Nat → Nat → Nat} {rm : Nat} {ja : Nat} (g : Geo ra jx rm) {σ : Sg} {v1 : Int} {v2 : Int} {v3 : Int64} (rσ : Rg ra jx rm σ) (hj : gP σ rm 17 = some ja) (hja : ja = ra 15 ∨ ja = ra 16) (hre : RecE ra jx rm ja σ) (hth : ThE ra rm σ) (h1 : 0 ≤ v1 ∧ v1 < 64) (h2 : 0 ≤ v2 ∧ v2 < 16) (h3 : v3.toInt ≤ 4611686018427387904) (hp : 1 ≤ gI σ rm 33) (hf : 0 ≤ gI σ (jx ja 4) v2.toNat) (hs : 0 ≤ gI σ (jx ja 5) v2.toNat) {Q : Sg → Unit → Prop} {X : Sg → String → Prop} (hQ : ∀ (σ' : Sg) (r : Unit), Rg ra jx rm σ' → Fr ra jx rm [26, 46, 47, 48, 49, 60, 61, 62, 63, 64, 65, 75, 76, 77, 78, 82] [27, 66, 67, 79, 80] σ σ' → (RecE ra jx rm ja σ' ∧ ThE ra rm σ') → Q σ' r) (hX : ∀ (σ' : Sg) (E : String), Rg ra jx rm σ' → Fr ra jx rm [26, 46, 47, 48, 49, 60, 61, 62, 63, 64, 65, 75, 76, 77, 78, 82] [27, 66, 67, 79, 80] σ σ' → (E = "StreamHouseModel$Broken" ∧ ThE ra rm σ' ∧ RecE ra jx rm ja σ') → X σ' E) : wp_X16_growLook ra jx rm v1 v2 v3 σ Q X := by
  obtain ⟨g1, g2, g3, g4, g5, g6, g7, g8⟩ := id g
  have fσ : Fr ra jx rm [26, 46, 47, 48, 49, 60, 61, 62, 63, 64, 65, 75, 76, 77, 78, 82] [27, 66, 67, 79, 80] σ σ := Fr.rf
  obtain ⟨own0, ps0, hr0, hm0⟩ := id hre
  unfold wp_X16_growLook
  unfold w_X16_growLook_0
  try simp only [forall_eq, rII, rIJ, rIP, rJJ, rJI, rJP, rPP, rPI, rPJ, g1, g2, g3, g4, g5, g6, g7, g8, Nat.reduceEqDiff, Nat.reduceAdd, false_and, and_false, true_and, and_true, reduceIte, nZ0, nZ1]
  refine ⟨ja, by exact hj, hja, ?_⟩
  refine ⟨ja, by exact hj, hja, ?_⟩
  refine ⟨by (first | omega | with_reducible assumption | (unfold rng; omega) | (unfold rng; (repeat' split) <;> omega) | grind), ?_⟩
  have q1 := rσ.2.2.1 ja 4 (v2.toNat); simp only [rgJ] at q1
  refine ⟨by (first | omega | with_reducible assumption | (unfold rng; omega) | (unfold rng; (repeat' split) <;> omega) | grind), ?_⟩
  refine ⟨ja, by exact hj, hja, ?_⟩
  refine ⟨ja, by exact hj, hja, ?_⟩
  refine ⟨by (first | omega | with_reducible assumption | (unfold rng; omega) | (unfold rng; (repeat' split) <;> omega) | grind), ?_⟩
  have q2 := rσ.2.2.1 ja 5 (v2.toNat); simp only [rgJ] at q2
  refine ⟨by (first | omega | with_reducible assumption | (unfold rng; omega) | (unfold rng; (repeat' split) <;> omega) | grind), ?_⟩
  have q3 := rσ.2.2.1 ja 6 ((gI σ (jx ja 4) v2.toNat).toNat); simp only [rgJ] at q3
  refine s_X16_leastWaiting g rσ (by assumption) (by (try simp only [rII, rIJ, rIP, rJJ, rJI, rJP, rPP, rPI, rPJ, g1, g2, g3, g4, g5, g6, g7, g8, Nat.reduceEqDiff, Nat.reduceAdd, false_and, and_false, true_and, and_true, reduceIte, nZ0, nZ1]) <;> (first | omega | with_reducible assumption | (unfold rng; omega) | (unfold rng; (repeat' split) <;> omega) | grind)) (by (try simp only [rII, rIJ, rIP, rJJ, rJI, rJP, rPP, rPI, rPJ, g1, g2, g3, g4, g5, g6, g7, g8, Nat.reduceEqDiff, Nat.reduceAdd, false_and, and_false, true_and, and_true, reduceIte, nZ0, nZ1]) <;> (first | omega | with_reducible assumption | (unfold rng; omega) | (unfold rng; (repeat' split) <;> omega) | grind)) (fun r46 p4 => ?_)
  try simp only [forall_eq, rII, rIJ, rIP, rJJ, rJI, rJP, rPP, rPI, rPJ, g1, g2, g3, g4, g5, g6, g7, g8, Nat.reduceEqDiff, Nat.reduceAdd, false_and, and_false, true_and, and_true, reduceIte, nZ0, nZ1]
  have pl9 := Or.imp id (fun q => And.intro q.1 q.2.2) p4
  have q5 := rσ.2.2.1 ja 6 ((gI σ (jx ja 5) v2.toNat).toNat); simp only [rgJ] at q5
  have L48 : ∀ (fu48 : Nat) (τ48 : Sg) (v7 : Int), Rg ra jx rm τ48 → Fr ra jx rm [26, 46, 47, 48, 49, 60, 61, 62, 63, 64, 65, 75, 76, 77, 78, 82] [27, 66, 67, 79, 80] σ τ48 → (∃ own ps, (((RecI ra rm τ48 own ps ∧ MtI ra jx ja τ48 own) ∧ ThE ra rm τ48) ∧ (v7 = -1 ∨ (own v7 = v1 ∧ 0 ≤ v7 ∧ v7 < 4000))) ∧ ((gI τ48 (ra 78) v1.toNat).toNat) < fu48) → (0) < 1 + 0 * 48 → wl_X16_growLook_48 ra jx rm Q X fu48 τ48 v1 v2 v3 (gI σ (jx ja 6) (gI σ (jx ja 4) v2.toNat).toNat) (gI σ (jx ja 6) (gI σ (jx ja 5) v2.toNat).toNat) v7 := by
    intro fu48
    induction fu48 with
    | zero => intro τ48 _ _ _ h9 _; obtain ⟨_, _, h9⟩ := h9; omega
    | succ fu48 ih48 =>
      intro τ48 v7 rτ48 fτ48 hi48 hm48
      obtain ⟨own, ps, hi48, hm48⟩ := hi48
      unfold wl_X16_growLook_48
      have eτ48_68 := fτ48.1 68 (by decide)
      have eτ48_70 := fτ48.1 70 (by decide)
      have eτ48_71 := fτ48.1 71 (by decide)
      have eτ48_73 := fτ48.1 73 (by decide)
      have eτ48_74 := fτ48.1 74 (by decide)
      have jτ48 := fτ48.2.2.1
      have pτ48 := fτ48.2.2.2
      unfold w_X16_growLook_48
      try simp only [forall_eq, rII, rIJ, rIP, rJJ, rJI, rJP, rPP, rPI, rPJ, g1, g2, g3, g4, g5, g6, g7, g8, Nat.reduceEqDiff, Nat.reduceAdd, false_and, and_false, true_and, and_true, reduceIte, nZ0, nZ1, eτ48_68.1, eτ48_68.2, eτ48_70.1, eτ48_70.2, eτ48_71.1, eτ48_71.2, eτ48_73.1, eτ48_73.2, eτ48_74.1, eτ48_74.2, fun a k => (jτ48 a k).1, fun a k => (jτ48 a k).2, pτ48]
      have hrA := hi48.1.1.1; have hmA := hi48.1.1.2; have htA := hi48.1.2
      split
      · rename_i hc51
        skip
        unfold w_X16_growLook_229
        try simp only [forall_eq, rII, rIJ, rIP, rJJ, rJI, rJP, rPP, rPI, rPJ, g1, g2, g3, g4, g5, g6, g7, g8, Nat.reduceEqDiff, Nat.reduceAdd, false_and, and_false, true_and, and_true, reduceIte, nZ0, nZ1, eτ48_68.1, eτ48_68.2, eτ48_70.1, eτ48_70.2, eτ48_71.1, eτ48_71.2, eτ48_73.1, eτ48_73.2, eτ48_74.1, eτ48_74.2, fun a k => (jτ48 a k).1, fun a k => (jτ48 a k).2, pτ48]
        refine ⟨by (first | omega | with_reducible assumption | (unfold rng; omega) | (unfold rng; (repeat' split) <;> omega) | grind), ?_⟩
        have q6 := rτ48.1 76 (v1.toNat); simp only [rgT] at q6
        have L237 : ∀ (fu237 : Nat) (τ237 : Sg) (v7 : Int), Rg ra jx rm τ237 → Fr ra jx rm [26, 46, 47, 48, 49, 60, 61, 62, 63, 64, 65, 75, 76, 77, 78, 82] [27, 66, 67, 79, 80] σ τ237 → (∃ own ps, (((RecI ra rm τ237 own ps ∧ MtI ra jx ja τ237 own) ∧ ThE ra rm τ237) ∧ (v7 = -1 ∨ own v7 = v1)) ∧ (lmm ra τ237 v1 ps v7) < fu237) → (0) < 1 + 0 * 237 → wl_X16_growLook_237 ra jx rm Q X fu237 τ237 v1 v2 v3 v7 := by
          intro fu237
          induction fu237 with
          | zero => intro τ237 _ _ _ h9 _; obtain ⟨_, _, h9⟩ := h9; omega
          | succ fu237 ih237 =>
            intro τ237 v7 rτ237 fτ237 hi237 hm237
            obtain ⟨own, ps, hi237, hm237⟩ := hi237
            unfold wl_X16_growLook_237
            have eτ237_68 := fτ237.1 68 (by decide)
            have eτ237_70 := fτ237.1 70 (by decide)
            have eτ237_71 := fτ237.1 71 (by decide)
            have eτ237_73 := fτ237.1 73 (by decide)
            have eτ237_74 := fτ237.1 74 (by decide)
            have jτ237 := fτ237.2.2.1
            have pτ237 := fτ237.2.2.2
            unfold w_X16_growLook_237
            try simp only [forall_eq, rII, rIJ, rIP, rJJ, rJI, rJP, rPP, rPI, rPJ, g1, g2, g3, g4, g5, g6, g7, g8, Nat.reduceEqDiff, Nat.reduceAdd, false_and, and_false, true_and, and_true, reduceIte, nZ0, nZ1, eτ237_68.1, eτ237_68.2, eτ237_70.1, eτ237_70.2, eτ237_71.1, eτ237_71.2, eτ237_73.1, eτ237_73.2, eτ237_74.1, eτ237_74.2, fun a k => (jτ237 a k).1, fun a k => (jτ237 a k).2, pτ237]
            split
            · rename_i hc240
              skip
              unfold w_X16_growLook_307
              try simp only [forall_eq, rII, rIJ, rIP, rJJ, rJI, rJP, rPP, rPI, rPJ, g1, g2, g3, g4, g5, g6, g7, g8, Nat.reduceEqDiff, Nat.reduceAdd, false_and, and_false, true_and, and_true, reduceIte, nZ0, nZ1, eτ237_68.1, eτ237_68.2, eτ237_70.1, eτ237_70.2, eτ237_71.1, eτ237_71.2, eτ237_73.1, eτ237_73.2, eτ237_74.1, eτ237_74.2, fun a k => (jτ237 a k).1, fun a k => (jτ237 a k).2, pτ237]
              refine hQ _ _ ?_ ?_ ?_
              · exact rτ237
              · exact fτ237
              · exact ⟨⟨_, _, hi237.1.1.1, hi237.1.1.2⟩, hi237.1.2⟩
            · rename_i hc240
              skip
              unfold w_X16_growLook_243
              try simp only [forall_eq, rII, rIJ, rIP, rJJ, rJI, rJP, rPP, rPI, rPJ, g1, g2, g3, g4, g5, g6, g7, g8, Nat.reduceEqDiff, Nat.reduceAdd, false_and, and_false, true_and, and_true, reduceIte, nZ0, nZ1, eτ237_68.1, eτ237_68.2, eτ237_70.1, eτ237_70.2, eτ237_71.1, eτ237_71.2, eτ237_73.1, eτ237_73.2, eτ237_74.1, eτ237_74.2, fun a k => (jτ237 a k).1, fun a k => (jτ237 a k).2, pτ237]
              have hov := hi237.2.resolve_left (by assumption)
              have nv7 := hi237.1.1.1.nd hov h1
              have hrA := hi237.1.1.1; have hmA := hi237.1.1.2; have htA := hi237.1.2
              refine ⟨by (first | omega | with_reducible assumption | (unfold rng; omega) | (unfold rng; (repeat' split) <;> omega) | grind), ?_⟩
              refine ⟨by (first | omega | with_reducible assumption | (unfold rng; omega) | (unfold rng; (repeat' split) <;> omega) | grind), ?_⟩
              have q7 := rσ.1 68 (v7.toNat); simp only [rgT] at q7
              split
              · rename_i hc260
                skip
                unfold w_X16_growLook_300
                try simp only [forall_eq, rII, rIJ, rIP, rJJ, rJI, rJP, rPP, rPI, rPJ, g1, g2, g3, g4, g5, g6, g7, g8, Nat.reduceEqDiff, Nat.reduceAdd, false_and, and_false, true_and, and_true, reduceIte, nZ0, nZ1, eτ237_68.1, eτ237_68.2, eτ237_70.1, eτ237_70.2, eτ237_71.1, eτ237_71.2, eτ237_73.1, eτ237_73.2, eτ237_74.1, eτ237_74.2, fun a k => (jτ237 a k).1, fun a k => (jτ237 a k).2, pτ237]
                have q8 := rτ237.1 75 (v7.toNat); simp only [rgT] at q8
                refine ih237 _ _ ?_ ?_ ?_ ?_
                · exact rτ237
                · exact fτ237
                · first | exact stepDT hi237.1.1.1 hi237.1.1.2 hi237.1.2 h1 hov p9 fc9 hm237 | exact stepKT hi237.1.1.1 hi237.1.1.2 hi237.1.2 h1 hov hm237
                · omega
              · rename_i hc260
                skip
                unfold w_X16_growLook_263
                try simp only [forall_eq, rII, rIJ, rIP, rJJ, rJI, rJP, rPP, rPI, rPJ, g1, g2, g3, g4, g5, g6, g7, g8, Nat.reduceEqDiff, Nat.reduceAdd, false_and, and_false, true_and, and_true, reduceIte, nZ0, nZ1, eτ237_68.1, eτ237_68.2, eτ237_70.1, eτ237_70.2, eτ237_71.1, eτ237_71.2, eτ237_73.1, eτ237_73.2, eτ237_74.1, eτ237_74.2, fun a k => (jτ237 a k).1, fun a k => (jτ237 a k).2, pτ237]
                refine ⟨by (first | omega | with_reducible assumption | (unfold rng; omega) | (unfold rng; (repeat' split) <;> omega) | grind), ?_⟩
                split
                · rename_i hc272
                  skip
                  unfold w_X16_growLook_300
                  try simp only [forall_eq, rII, rIJ, rIP, rJJ, rJI, rJP, rPP, rPI, rPJ, g1, g2, g3, g4, g5, g6, g7, g8, Nat.reduceEqDiff, Nat.reduceAdd, false_and, and_false, true_and, and_true, reduceIte, nZ0, nZ1, eτ237_68.1, eτ237_68.2, eτ237_70.1, eτ237_70.2, eτ237_71.1, eτ237_71.2, eτ237_73.1, eτ237_73.2, eτ237_74.1, eτ237_74.2, fun a k => (jτ237 a k).1, fun a k => (jτ237 a k).2, pτ237]
                  have q9 := rτ237.1 75 (v7.toNat); simp only [rgT] at q9
                  refine ih237 _ _ ?_ ?_ ?_ ?_
                  · exact rτ237
                  · exact fτ237
                  · first | exact stepDT hi237.1.1.1 hi237.1.1.2 hi237.1.2 h1 hov p9 fc9 hm237 | exact stepKT hi237.1.1.1 hi237.1.1.2 hi237.1.2 h1 hov hm237
                  · omega
                · rename_i hc272
                  skip
                  unfold w_X16_growLook_275
                  try simp only [forall_eq, rII, rIJ, rIP, rJJ, rJI, rJP, rPP, rPI, rPJ, g1, g2, g3, g4, g5, g6, g7, g8, Nat.reduceEqDiff, Nat.reduceAdd, false_and, and_false, true_and, and_true, reduceIte, nZ0, nZ1, eτ237_68.1, eτ237_68.2, eτ237_70.1, eτ237_70.2, eτ237_71.1, eτ237_71.2, eτ237_73.1, eτ237_73.2, eτ237_74.1, eτ237_74.2, fun a k => (jτ237 a k).1, fun a k => (jτ237 a k).2, pτ237]
                  refine ⟨by (first | omega | with_reducible assumption | (unfold rng; omega) | (unfold rng; (repeat' split) <;> omega) | grind), ?_⟩
                  refine s_X16_greatestOf g rτ237 (by first | exact hj | (rw [fτ237.2.2.2]; exact hj)) hja (by assumption) (by (try simp only [rII, rIJ, rIP, rJJ, rJI, rJP, rPP, rPI, rPJ, g1, g2, g3, g4, g5, g6, g7, g8, Nat.reduceEqDiff, Nat.reduceAdd, false_and, and_false, true_and, and_true, reduceIte, nZ0, nZ1, eτ237_68.1, eτ237_68.2, eτ237_70.1, eτ237_70.2, eτ237_71.1, eτ237_71.2, eτ237_73.1, eτ237_73.2, eτ237_74.1, eτ237_74.2, fun a k => (jτ237 a k).1, fun a k => (jτ237 a k).2, pτ237]) <;> (first | omega | with_reducible assumption | (unfold rng; omega) | (unfold rng; (repeat' split) <;> omega) | grind)) (by (try simp only [rII, rIJ, rIP, rJJ, rJI, rJP, rPP, rPI, rPJ, g1, g2, g3, g4, g5, g6, g7, g8, Nat.reduceEqDiff, Nat.reduceAdd, false_and, and_false, true_and, and_true, reduceIte, nZ0, nZ1, eτ237_68.1, eτ237_68.2, eτ237_70.1, eτ237_70.2, eτ237_71.1, eτ237_71.2, eτ237_73.1, eτ237_73.2, eτ237_74.1, eτ237_74.2, fun a k => (jτ237 a k).1, fun a k => (jτ237 a k).2, pτ237]) <;> (first | omega | with_reducible assumption | (unfold rng; omega) | (unfold rng; (repeat' split) <;> omega) | grind)) (by (try simp only [rII, rIJ, rIP, rJJ, rJI, rJP, rPP, rPI, rPJ, g1, g2, g3, g4, g5, g6, g7, g8, Nat.reduceEqDiff, Nat.reduceAdd, false_and, and_false, true_and, and_true, reduceIte, nZ0, nZ1, eτ237_68.1, eτ237_68.2, eτ237_70.1, eτ237_70.2, eτ237_71.1, eτ237_71.2, eτ237_73.1, eτ237_73.2, eτ237_74.1, eτ237_74.2, fun a k => (jτ237 a k).1, fun a k => (jτ237 a k).2, pτ237]) <;> (first | omega | with_reducible assumption | (unfold rng; omega) | (unfold rng; (repeat' split) <;> omega) | grind)) (fun r48 p10 => ?_)
                  try simp only [forall_eq, rII, rIJ, rIP, rJJ, rJI, rJP, rPP, rPI, rPJ, g1, g2, g3, g4, g5, g6, g7, g8, Nat.reduceEqDiff, Nat.reduceAdd, false_and, and_false, true_and, and_true, reduceIte, nZ0, nZ1, eτ237_68.1, eτ237_68.2, eτ237_70.1, eτ237_70.2, eτ237_71.1, eτ237_71.2, eτ237_73.1, eτ237_73.2, eτ237_74.1, eτ237_74.2, fun a k => (jτ237 a k).1, fun a k => (jτ237 a k).2, pτ237]
                  split
                  · rename_i hc291
                    skip
                    unfold w_X16_growLook_300
                    try simp only [forall_eq, rII, rIJ, rIP, rJJ, rJI, rJP, rPP, rPI, rPJ, g1, g2, g3, g4, g5, g6, g7, g8, Nat.reduceEqDiff, Nat.reduceAdd, false_and, and_false, true_and, and_true, reduceIte, nZ0, nZ1, eτ237_68.1, eτ237_68.2, eτ237_70.1, eτ237_70.2, eτ237_71.1, eτ237_71.2, eτ237_73.1, eτ237_73.2, eτ237_74.1, eτ237_74.2, fun a k => (jτ237 a k).1, fun a k => (jτ237 a k).2, pτ237]
                    have q11 := rτ237.1 75 (v7.toNat); simp only [rgT] at q11
                    refine ih237 _ _ ?_ ?_ ?_ ?_
                    · exact rτ237
                    · exact fτ237
                    · first | exact stepDT hi237.1.1.1 hi237.1.1.2 hi237.1.2 h1 hov p9 fc9 hm237 | exact stepKT hi237.1.1.1 hi237.1.1.2 hi237.1.2 h1 hov hm237
                    · omega
                  · rename_i hc291
                    skip
                    unfold w_X16_growLook_294
                    try simp only [forall_eq, rII, rIJ, rIP, rJJ, rJI, rJP, rPP, rPI, rPJ, g1, g2, g3, g4, g5, g6, g7, g8, Nat.reduceEqDiff, Nat.reduceAdd, false_and, and_false, true_and, and_true, reduceIte, nZ0, nZ1, eτ237_68.1, eτ237_68.2, eτ237_70.1, eτ237_70.2, eτ237_71.1, eτ237_71.2, eτ237_73.1, eτ237_73.2, eτ237_74.1, eτ237_74.2, fun a k => (jτ237 a k).1, fun a k => (jτ237 a k).2, pτ237]
                    refine s_X16_drop g rτ237 (by assumption) h1 hov (fun σ49 _ rσ49 fc p12 => ?_)
                    have fσ49 : Fr ra jx rm [26, 46, 47, 48, 49, 60, 61, 62, 63, 64, 65, 75, 76, 77, 78, 82] [27, 66, 67, 79, 80] σ σ49 := Fr.tr fτ237 (Fr.mor (fc) (by decide) (by decide))
                    have p9 := p12
                    have fc9 := fc
                    have pd := p12
                    have re9 := pd.1
                    have q78 := pd.2
                    have td := ThE.fr (by assumption) fc (by decide) (by decide)
                    have pe9 := td
                    have md := MtI.less (r := v7) (MtI.fr (by assumption) fc (by decide))
                    have me9 := md
                    have eσ49_68 := fσ49.1 68 (by decide)
                    have eσ49_70 := fσ49.1 70 (by decide)
                    have eσ49_71 := fσ49.1 71 (by decide)
                    have eσ49_73 := fσ49.1 73 (by decide)
                    have eσ49_74 := fσ49.1 74 (by decide)
                    have jσ49 := fσ49.2.2.1
                    have pσ49 := fσ49.2.2.2
                    try simp only [forall_eq, rII, rIJ, rIP, rJJ, rJI, rJP, rPP, rPI, rPJ, g1, g2, g3, g4, g5, g6, g7, g8, Nat.reduceEqDiff, Nat.reduceAdd, false_and, and_false, true_and, and_true, reduceIte, nZ0, nZ1, eσ49_68.1, eσ49_68.2, eσ49_70.1, eσ49_70.2, eσ49_71.1, eσ49_71.2, eσ49_73.1, eσ49_73.2, eσ49_74.1, eσ49_74.2, fun a k => (jσ49 a k).1, fun a k => (jσ49 a k).2, pσ49]
                    unfold w_X16_growLook_300
                    try simp only [forall_eq, rII, rIJ, rIP, rJJ, rJI, rJP, rPP, rPI, rPJ, g1, g2, g3, g4, g5, g6, g7, g8, Nat.reduceEqDiff, Nat.reduceAdd, false_and, and_false, true_and, and_true, reduceIte, nZ0, nZ1, eσ49_68.1, eσ49_68.2, eσ49_70.1, eσ49_70.2, eσ49_71.1, eσ49_71.2, eσ49_73.1, eσ49_73.2, eσ49_74.1, eσ49_74.2, fun a k => (jσ49 a k).1, fun a k => (jσ49 a k).2, pσ49]
                    have q13 := rτ237.1 75 (v7.toNat); simp only [rgT] at q13
                    refine ih237 _ _ ?_ ?_ ?_ ?_
                    · exact rσ49
                    · exact fσ49
                    · first | exact stepDT hi237.1.1.1 hi237.1.1.2 hi237.1.2 h1 hov p9 fc9 hm237 | exact stepKT hi237.1.1.1 hi237.1.1.2 hi237.1.2 h1 hov hm237
                    · omega
        refine ⟨(lmm ra τ48 v1 ps (gI τ48 (ra 76) v1.toNat)) + 1, L237 _ _ _ ?_ ?_ ?_ (by omega)⟩
        · exact rτ48
        · exact fτ48
        · exact ⟨own, ps, ⟨⟨⟨hrA, hmA⟩, htA⟩, hrA.hd h1⟩, Nat.lt_succ_self _⟩
      · rename_i hc51
        skip
        unfold w_X16_growLook_54
        try simp only [forall_eq, rII, rIJ, rIP, rJJ, rJI, rJP, rPP, rPI, rPJ, g1, g2, g3, g4, g5, g6, g7, g8, Nat.reduceEqDiff, Nat.reduceAdd, false_and, and_false, true_and, and_true, reduceIte, nZ0, nZ1, eτ48_68.1, eτ48_68.2, eτ48_70.1, eτ48_70.2, eτ48_71.1, eτ48_71.2, eτ48_73.1, eτ48_73.2, eτ48_74.1, eτ48_74.2, fun a k => (jτ48 a k).1, fun a k => (jτ48 a k).2, pτ48]
        have ho7 := hi48.2.resolve_left (by assumption)
        have n7 := hi48.1.1.1.nd ho7.1 h1
        have hov := ho7.1
        refine ⟨by (first | omega | with_reducible assumption | (unfold rng; omega) | (unfold rng; (repeat' split) <;> omega) | grind), ?_⟩
        refine ⟨by (first | omega | with_reducible assumption | (unfold rng; omega) | (unfold rng; (repeat' split) <;> omega) | grind), ?_⟩
        refine s_X16_greatestOf g rτ48 (by first | exact hj | (rw [fτ48.2.2.2]; exact hj)) hja (by assumption) (by (try simp only [rII, rIJ, rIP, rJJ, rJI, rJP, rPP, rPI, rPJ, g1, g2, g3, g4, g5, g6, g7, g8, Nat.reduceEqDiff, Nat.reduceAdd, false_and, and_false, true_and, and_true, reduceIte, nZ0, nZ1, eτ48_68.1, eτ48_68.2, eτ48_70.1, eτ48_70.2, eτ48_71.1, eτ48_71.2, eτ48_73.1, eτ48_73.2, eτ48_74.1, eτ48_74.2, fun a k => (jτ48 a k).1, fun a k => (jτ48 a k).2, pτ48]) <;> (first | omega | with_reducible assumption | (unfold rng; omega) | (unfold rng; (repeat' split) <;> omega) | grind)) (by (try simp only [rII, rIJ, rIP, rJJ, rJI, rJP, rPP, rPI, rPJ, g1, g2, g3, g4, g5, g6, g7, g8, Nat.reduceEqDiff, Nat.reduceAdd, false_and, and_false, true_and, and_true, reduceIte, nZ0, nZ1, eτ48_68.1, eτ48_68.2, eτ48_70.1, eτ48_70.2, eτ48_71.1, eτ48_71.2, eτ48_73.1, eτ48_73.2, eτ48_74.1, eτ48_74.2, fun a k => (jτ48 a k).1, fun a k => (jτ48 a k).2, pτ48]) <;> (first | omega | with_reducible assumption | (unfold rng; omega) | (unfold rng; (repeat' split) <;> omega) | grind)) (by (try simp only [rII, rIJ, rIP, rJJ, rJI, rJP, rPP, rPI, rPJ, g1, g2, g3, g4, g5, g6, g7, g8, Nat.reduceEqDiff, Nat.reduceAdd, false_and, and_false, true_and, and_true, reduceIte, nZ0, nZ1, eτ48_68.1, eτ48_68.2, eτ48_70.1, eτ48_70.2, eτ48_71.1, eτ48_71.2, eτ48_73.1, eτ48_73.2, eτ48_74.1, eτ48_74.2, fun a k => (jτ48 a k).1, fun a k => (jτ48 a k).2, pτ48]) <;> (first | omega | with_reducible assumption | (unfold rng; omega) | (unfold rng; (repeat' split) <;> omega) | grind)) (fun r51 p14 => ?_)
        try simp only [forall_eq, rII, rIJ, rIP, rJJ, rJI, rJP, rPP, rPI, rPJ, g1, g2, g3, g4, g5, g6, g7, g8, Nat.reduceEqDiff, Nat.reduceAdd, false_and, and_false, true_and, and_true, reduceIte, nZ0, nZ1, eτ48_68.1, eτ48_68.2, eτ48_70.1, eτ48_70.2, eτ48_71.1, eτ48_71.2, eτ48_73.1, eτ48_73.2, eτ48_74.1, eτ48_74.2, fun a k => (jτ48 a k).1, fun a k => (jτ48 a k).2, pτ48]
        split
        · rename_i hc79
          skip
          unfold w_X16_growLook_210
          try simp only [forall_eq, rII, rIJ, rIP, rJJ, rJI, rJP, rPP, rPI, rPJ, g1, g2, g3, g4, g5, g6, g7, g8, Nat.reduceEqDiff, Nat.reduceAdd, false_and, and_false, true_and, and_true, reduceIte, nZ0, nZ1, eτ48_68.1, eτ48_68.2, eτ48_70.1, eτ48_70.2, eτ48_71.1, eτ48_71.2, eτ48_73.1, eτ48_73.2, eτ48_74.1, eτ48_74.2, fun a k => (jτ48 a k).1, fun a k => (jτ48 a k).2, pτ48]
          refine s_X16_drop g rτ48 (by assumption) h1 hov (fun σ52 _ rσ52 fc p15 => ?_)
          have fσ52 : Fr ra jx rm [26, 46, 47, 48, 49, 60, 61, 62, 63, 64, 65, 75, 76, 77, 78, 82] [27, 66, 67, 79, 80] σ σ52 := Fr.tr fτ48 (Fr.mor (fc) (by decide) (by decide))
          have p9 := p15
          have fc9 := fc
          have pd := p15
          have re9 := pd.1
          have q78 := pd.2
          have td := ThE.fr (by assumption) fc (by decide) (by decide)
          have pe9 := td
          have md := MtI.less (r := v7) (MtI.fr (by assumption) fc (by decide))
          have me9 := md
          have eσ52_68 := fσ52.1 68 (by decide)
          have eσ52_70 := fσ52.1 70 (by decide)
          have eσ52_71 := fσ52.1 71 (by decide)
          have eσ52_73 := fσ52.1 73 (by decide)
          have eσ52_74 := fσ52.1 74 (by decide)
          have jσ52 := fσ52.2.2.1
          have pσ52 := fσ52.2.2.2
          try simp only [forall_eq, rII, rIJ, rIP, rJJ, rJI, rJP, rPP, rPI, rPJ, g1, g2, g3, g4, g5, g6, g7, g8, Nat.reduceEqDiff, Nat.reduceAdd, false_and, and_false, true_and, and_true, reduceIte, nZ0, nZ1, eσ52_68.1, eσ52_68.2, eσ52_70.1, eσ52_70.2, eσ52_71.1, eσ52_71.2, eσ52_73.1, eσ52_73.2, eσ52_74.1, eσ52_74.2, fun a k => (jσ52 a k).1, fun a k => (jσ52 a k).2, pσ52]
          unfold w_X16_growLook_216
          try simp only [forall_eq, rII, rIJ, rIP, rJJ, rJI, rJP, rPP, rPI, rPJ, g1, g2, g3, g4, g5, g6, g7, g8, Nat.reduceEqDiff, Nat.reduceAdd, false_and, and_false, true_and, and_true, reduceIte, nZ0, nZ1, eσ52_68.1, eσ52_68.2, eσ52_70.1, eσ52_70.2, eσ52_71.1, eσ52_71.2, eσ52_73.1, eσ52_73.2, eσ52_74.1, eσ52_74.2, fun a k => (jσ52 a k).1, fun a k => (jσ52 a k).2, pσ52]
          refine s_X16_leastWaiting g rσ52 (by assumption) (by (try simp only [rII, rIJ, rIP, rJJ, rJI, rJP, rPP, rPI, rPJ, g1, g2, g3, g4, g5, g6, g7, g8, Nat.reduceEqDiff, Nat.reduceAdd, false_and, and_false, true_and, and_true, reduceIte, nZ0, nZ1, eσ52_68.1, eσ52_68.2, eσ52_70.1, eσ52_70.2, eσ52_71.1, eσ52_71.2, eσ52_73.1, eσ52_73.2, eσ52_74.1, eσ52_74.2, fun a k => (jσ52 a k).1, fun a k => (jσ52 a k).2, pσ52]) <;> (first | omega | with_reducible assumption | (unfold rng; omega) | (unfold rng; (repeat' split) <;> omega) | grind)) (by (try simp only [rII, rIJ, rIP, rJJ, rJI, rJP, rPP, rPI, rPJ, g1, g2, g3, g4, g5, g6, g7, g8, Nat.reduceEqDiff, Nat.reduceAdd, false_and, and_false, true_and, and_true, reduceIte, nZ0, nZ1, eσ52_68.1, eσ52_68.2, eσ52_70.1, eσ52_70.2, eσ52_71.1, eσ52_71.2, eσ52_73.1, eσ52_73.2, eσ52_74.1, eσ52_74.2, fun a k => (jσ52 a k).1, fun a k => (jσ52 a k).2, pσ52]) <;> (first | omega | with_reducible assumption | (unfold rng; omega) | (unfold rng; (repeat' split) <;> omega) | grind)) (fun r54 p16 => ?_)
          try simp only [forall_eq, rII, rIJ, rIP, rJJ, rJI, rJP, rPP, rPI, rPJ, g1, g2, g3, g4, g5, g6, g7, g8, Nat.reduceEqDiff, Nat.reduceAdd, false_and, and_false, true_and, and_true, reduceIte, nZ0, nZ1, eσ52_68.1, eσ52_68.2, eσ52_70.1, eσ52_70.2, eσ52_71.1, eσ52_71.2, eσ52_73.1, eσ52_73.2, eσ52_74.1, eσ52_74.2, fun a k => (jσ52 a k).1, fun a k => (jσ52 a k).2, pσ52]
          have pl9 := Or.imp id (fun q => And.intro q.1 q.2.2) p16
          refine ih48 _ _ ?_ ?_ ?_ ?_
          · exact rσ52
          · exact fσ52
          · exact ⟨_, _, ⟨⟨⟨re9, me9⟩, pe9⟩, pl9⟩, by omega⟩
          · omega
        · rename_i hc79
          skip
          unfold w_X16_growLook_82
          try simp only [forall_eq, rII, rIJ, rIP, rJJ, rJI, rJP, rPP, rPI, rPJ, g1, g2, g3, g4, g5, g6, g7, g8, Nat.reduceEqDiff, Nat.reduceAdd, false_and, and_false, true_and, and_true, reduceIte, nZ0, nZ1, eτ48_68.1, eτ48_68.2, eτ48_70.1, eτ48_70.2, eτ48_71.1, eτ48_71.2, eτ48_73.1, eτ48_73.2, eτ48_74.1, eτ48_74.2, fun a k => (jτ48 a k).1, fun a k => (jτ48 a k).2, pτ48]
          have L85 : ∀ (fu85 : Nat) (τ85 : Sg) (v9 : Int), Rg ra jx rm τ85 → Fr ra jx rm [26, 46, 47, 48, 49, 60, 61, 62, 63, 64, 65, 75, 76, 77, 78, 82] [27, 66, 67, 79, 80] σ τ85 → (RecI ra rm τ85 own ps ∧ MtI ra jx ja τ85 own ∧ ThE ra rm τ85 ∧ gI τ85 (ra 78) v1.toNat = gI τ48 (ra 78) v1.toNat ∧ 0 ≤ v9 ∧ v9 ≤ 8) → ((8 - v9).toNat) < fu85 → wl_X16_growLook_85 ra jx rm (wl_X16_growLook_48 ra jx rm Q X fu48) Q X fu85 τ85 v1 v2 v3 (gI σ (jx ja 6) (gI σ (jx ja 4) v2.toNat).toNat) (gI σ (jx ja 6) (gI σ (jx ja 5) v2.toNat).toNat) v7 r51 v9 := by
            intro fu85
            induction fu85 with
            | zero => intro τ85 _ _ _ _ h9; omega
            | succ fu85 ih85 =>
              intro τ85 v9 rτ85 fτ85 hi85 hm85
              unfold wl_X16_growLook_85
              have eτ85_68 := fτ85.1 68 (by decide)
              have eτ85_70 := fτ85.1 70 (by decide)
              have eτ85_71 := fτ85.1 71 (by decide)
              have eτ85_73 := fτ85.1 73 (by decide)
              have eτ85_74 := fτ85.1 74 (by decide)
              have jτ85 := fτ85.2.2.1
              have pτ85 := fτ85.2.2.2
              unfold w_X16_growLook_85
              try simp only [forall_eq, rII, rIJ, rIP, rJJ, rJI, rJP, rPP, rPI, rPJ, g1, g2, g3, g4, g5, g6, g7, g8, Nat.reduceEqDiff, Nat.reduceAdd, false_and, and_false, true_and, and_true, reduceIte, nZ0, nZ1, eτ85_68.1, eτ85_68.2, eτ85_70.1, eτ85_70.2, eτ85_71.1, eτ85_71.2, eτ85_73.1, eτ85_73.2, eτ85_74.1, eτ85_74.2, fun a k => (jτ85 a k).1, fun a k => (jτ85 a k).2, pτ85]
              obtain ⟨k1, k2, k3, k4, k5, k6⟩ := hi85
              split
              · rename_i hc89
                skip
                unfold w_X16_growLook_158
                try simp only [forall_eq, rII, rIJ, rIP, rJJ, rJI, rJP, rPP, rPI, rPJ, g1, g2, g3, g4, g5, g6, g7, g8, Nat.reduceEqDiff, Nat.reduceAdd, false_and, and_false, true_and, and_true, reduceIte, nZ0, nZ1, eτ85_68.1, eτ85_68.2, eτ85_70.1, eτ85_70.2, eτ85_71.1, eτ85_71.2, eτ85_73.1, eτ85_73.2, eτ85_74.1, eτ85_74.2, fun a k => (jτ85 a k).1, fun a k => (jτ85 a k).2, pτ85]
                refine ⟨by (first | omega | with_reducible assumption | (unfold rng; omega) | (unfold rng; (repeat' split) <;> omega) | grind), ?_⟩
                refine ⟨by (first | omega | with_reducible assumption | (unfold rng; omega) | (unfold rng; (repeat' split) <;> omega) | grind), ?_⟩
                refine ⟨by (first | omega | with_reducible assumption | (unfold rng; omega) | (unfold rng; (repeat' split) <;> omega) | grind), ?_⟩
                have q17 := rσ.1 74 (v7.toNat); simp only [rgT] at q17
                have q18 := rσ.1 74 (r51.toNat); simp only [rgT] at q18
                refine s_X16_joined g rτ85 (by (try simp only [rII, rIJ, rIP, rJJ, rJI, rJP, rPP, rPI, rPJ, g1, g2, g3, g4, g5, g6, g7, g8, Nat.reduceEqDiff, Nat.reduceAdd, false_and, and_false, true_and, and_true, reduceIte, nZ0, nZ1, eτ85_68.1, eτ85_68.2, eτ85_70.1, eτ85_70.2, eτ85_71.1, eτ85_71.2, eτ85_73.1, eτ85_73.2, eτ85_74.1, eτ85_74.2, fun a k => (jτ85 a k).1, fun a k => (jτ85 a k).2, pτ85]) <;> (first | omega | with_reducible assumption | (unfold rng; omega) | (unfold rng; (repeat' split) <;> omega) | grind)) (by (try simp only [rII, rIJ, rIP, rJJ, rJI, rJP, rPP, rPI, rPJ, g1, g2, g3, g4, g5, g6, g7, g8, Nat.reduceEqDiff, Nat.reduceAdd, false_and, and_false, true_and, and_true, reduceIte, nZ0, nZ1, eτ85_68.1, eτ85_68.2, eτ85_70.1, eτ85_70.2, eτ85_71.1, eτ85_71.2, eτ85_73.1, eτ85_73.2, eτ85_74.1, eτ85_74.2, fun a k => (jτ85 a k).1, fun a k => (jτ85 a k).2, pτ85]) <;> (first | omega | with_reducible assumption | (unfold rng; omega) | (unfold rng; (repeat' split) <;> omega) | grind)) (fun σ55 r56 rσ55 fc p19 => ?_) (fun σx E rx fx px => hX _ _ rx (Fr.tr fτ85 (Fr.mor (fx) (by decide) (by decide))) ⟨px, ThE.fr (by assumption) fx (by decide) (by decide), _, _, RecI.fr (by assumption) fx (by decide) (by decide), MtI.fr (by assumption) fx (by decide)⟩)
                have fσ55 : Fr ra jx rm [26, 46, 47, 48, 49, 60, 61, 62, 63, 64, 65, 75, 76, 77, 78, 82] [27, 66, 67, 79, 80] σ σ55 := Fr.tr fτ85 (Fr.mor (fc) (by decide) (by decide))
                have r1 := RecI.fr k1 fc (by decide) (by decide)
                have m1 := MtI.fr k2 fc (by decide)
                have t1 := ThE.fr k3 fc (by decide) (by decide)
                have e78j := congrFun (fc.1 78 (by decide)).1 v1.toNat
                have eσ55_68 := fσ55.1 68 (by decide)
                have eσ55_70 := fσ55.1 70 (by decide)
                have eσ55_71 := fσ55.1 71 (by decide)
                have eσ55_73 := fσ55.1 73 (by decide)
                have eσ55_74 := fσ55.1 74 (by decide)
                have jσ55 := fσ55.2.2.1
                have pσ55 := fσ55.2.2.2
                try simp only [forall_eq, rII, rIJ, rIP, rJJ, rJI, rJP, rPP, rPI, rPJ, g1, g2, g3, g4, g5, g6, g7, g8, Nat.reduceEqDiff, Nat.reduceAdd, false_and, and_false, true_and, and_true, reduceIte, nZ0, nZ1, eσ55_68.1, eσ55_68.2, eσ55_70.1, eσ55_70.2, eσ55_71.1, eσ55_71.2, eσ55_73.1, eσ55_73.2, eσ55_74.1, eσ55_74.2, fun a k => (jσ55 a k).1, fun a k => (jσ55 a k).2, pσ55]
                refine s_X16_drop g rσ55 (by assumption) h1 hov (fun σ57 _ rσ57 fc p20 => ?_)
                have fσ57 : Fr ra jx rm [26, 46, 47, 48, 49, 60, 61, 62, 63, 64, 65, 75, 76, 77, 78, 82] [27, 66, 67, 79, 80] σ σ57 := Fr.tr fσ55 (Fr.mor (fc) (by decide) (by decide))
                have p9 := p20
                have fc9 := fc
                have pd := p20
                have re9 := pd.1
                have q78 := pd.2
                have td := ThE.fr (by assumption) fc (by decide) (by decide)
                have pe9 := td
                have md := MtI.less (r := v7) (MtI.fr (by assumption) fc (by decide))
                have me9 := md
                have eσ57_68 := fσ57.1 68 (by decide)
                have eσ57_70 := fσ57.1 70 (by decide)
                have eσ57_71 := fσ57.1 71 (by decide)
                have eσ57_73 := fσ57.1 73 (by decide)
                have eσ57_74 := fσ57.1 74 (by decide)
                have jσ57 := fσ57.2.2.1
                have pσ57 := fσ57.2.2.2
                try simp only [forall_eq, rII, rIJ, rIP, rJJ, rJI, rJP, rPP, rPI, rPJ, g1, g2, g3, g4, g5, g6, g7, g8, Nat.reduceEqDiff, Nat.reduceAdd, false_and, and_false, true_and, and_true, reduceIte, nZ0, nZ1, eσ57_68.1, eσ57_68.2, eσ57_70.1, eσ57_70.2, eσ57_71.1, eσ57_71.2, eσ57_73.1, eσ57_73.2, eσ57_74.1, eσ57_74.2, fun a k => (jσ57 a k).1, fun a k => (jσ57 a k).2, pσ57]
                refine s_X16_emit (b4 := (ra 82)) (n4 := 16) g rσ57 (by first | exact hj | (rw [fσ57.2.2.2]; exact hj)) hja rfl (Or.inl ⟨82, rfl, by decide⟩) (by assumption) (by (try simp only [rII, rIJ, rIP, rJJ, rJI, rJP, rPP, rPI, rPJ, g1, g2, g3, g4, g5, g6, g7, g8, Nat.reduceEqDiff, Nat.reduceAdd, false_and, and_false, true_and, and_true, reduceIte, nZ0, nZ1, eσ57_68.1, eσ57_68.2, eσ57_70.1, eσ57_70.2, eσ57_71.1, eσ57_71.2, eσ57_73.1, eσ57_73.2, eσ57_74.1, eσ57_74.2, fun a k => (jσ57 a k).1, fun a k => (jσ57 a k).2, pσ57]) <;> (first | omega | with_reducible assumption | (unfold rng; omega) | (unfold rng; (repeat' split) <;> omega) | grind)) (by (try simp only [rII, rIJ, rIP, rJJ, rJI, rJP, rPP, rPI, rPJ, g1, g2, g3, g4, g5, g6, g7, g8, Nat.reduceEqDiff, Nat.reduceAdd, false_and, and_false, true_and, and_true, reduceIte, nZ0, nZ1, eσ57_68.1, eσ57_68.2, eσ57_70.1, eσ57_70.2, eσ57_71.1, eσ57_71.2, eσ57_73.1, eσ57_73.2, eσ57_74.1, eσ57_74.2, fun a k => (jσ57 a k).1, fun a k => (jσ57 a k).2, pσ57]) <;> exact rσ.2.2.2 71 _) (by (try simp only [rII, rIJ, rIP, rJJ, rJI, rJP, rPP, rPI, rPJ, g1, g2, g3, g4, g5, g6, g7, g8, Nat.reduceEqDiff, Nat.reduceAdd, false_and, and_false, true_and, and_true, reduceIte, nZ0, nZ1, eσ57_68.1, eσ57_68.2, eσ57_70.1, eσ57_70.2, eσ57_71.1, eσ57_71.2, eσ57_73.1, eσ57_73.2, eσ57_74.1, eσ57_74.2, fun a k => (jσ57 a k).1, fun a k => (jσ57 a k).2, pσ57]) <;> (first | omega | with_reducible assumption | (unfold rng; omega) | (unfold rng; (repeat' split) <;> omega) | grind)) (by (try simp only [rII, rIJ, rIP, rJJ, rJI, rJP, rPP, rPI, rPJ, g1, g2, g3, g4, g5, g6, g7, g8, Nat.reduceEqDiff, Nat.reduceAdd, false_and, and_false, true_and, and_true, reduceIte, nZ0, nZ1, eσ57_68.1, eσ57_68.2, eσ57_70.1, eσ57_70.2, eσ57_71.1, eσ57_71.2, eσ57_73.1, eσ57_73.2, eσ57_74.1, eσ57_74.2, fun a k => (jσ57 a k).1, fun a k => (jσ57 a k).2, pσ57]) <;> (first | omega | with_reducible assumption | (unfold rng; omega) | (unfold rng; (repeat' split) <;> omega) | grind)) (by (try simp only [rII, rIJ, rIP, rJJ, rJI, rJP, rPP, rPI, rPJ, g1, g2, g3, g4, g5, g6, g7, g8, Nat.reduceEqDiff, Nat.reduceAdd, false_and, and_false, true_and, and_true, reduceIte, nZ0, nZ1, eσ57_68.1, eσ57_68.2, eσ57_70.1, eσ57_70.2, eσ57_71.1, eσ57_71.2, eσ57_73.1, eσ57_73.2, eσ57_74.1, eσ57_74.2, fun a k => (jσ57 a k).1, fun a k => (jσ57 a k).2, pσ57]) <;> (first | omega | with_reducible assumption | (unfold rng; omega) | (unfold rng; (repeat' split) <;> omega) | grind)) (by (try simp only [rII, rIJ, rIP, rJJ, rJI, rJP, rPP, rPI, rPJ, g1, g2, g3, g4, g5, g6, g7, g8, Nat.reduceEqDiff, Nat.reduceAdd, false_and, and_false, true_and, and_true, reduceIte, nZ0, nZ1, eσ57_68.1, eσ57_68.2, eσ57_70.1, eσ57_70.2, eσ57_71.1, eσ57_71.2, eσ57_73.1, eσ57_73.2, eσ57_74.1, eσ57_74.2, fun a k => (jσ57 a k).1, fun a k => (jσ57 a k).2, pσ57]) <;> first | exact hp | (rw [(fσ57.2.1 33 (by decide)).1]; exact hp)) (fun σ58 _ rσ58 fc p21 => ?_) (fun σx E rx fx px => hX _ _ rx (Fr.tr fσ57 (Fr.mor (fx) (by decide) (by decide))) ⟨px.1, px.2, _, _, RecI.fr (by assumption) fx (by decide) (by decide), MtI.fr (by assumption) fx (by decide)⟩)
                have fσ58 : Fr ra jx rm [26, 46, 47, 48, 49, 60, 61, 62, 63, 64, 65, 75, 76, 77, 78, 82] [27, 66, 67, 79, 80] σ σ58 := Fr.tr fσ57 (Fr.mor (fc) (by decide) (by decide))
                have pe9 := p21
                have re9 := RecI.fr (by assumption) fc (by decide) (by decide)
                have me9 := MtI.fr (by assumption) fc (by decide)
                have e78e := congrFun (fc.1 78 (by decide)).1 v1.toNat
                have eσ58_68 := fσ58.1 68 (by decide)
                have eσ58_70 := fσ58.1 70 (by decide)
                have eσ58_71 := fσ58.1 71 (by decide)
                have eσ58_73 := fσ58.1 73 (by decide)
                have eσ58_74 := fσ58.1 74 (by decide)
                have jσ58 := fσ58.2.2.1
                have pσ58 := fσ58.2.2.2
                try simp only [forall_eq, rII, rIJ, rIP, rJJ, rJI, rJP, rPP, rPI, rPJ, g1, g2, g3, g4, g5, g6, g7, g8, Nat.reduceEqDiff, Nat.reduceAdd, false_and, and_false, true_and, and_true, reduceIte, nZ0, nZ1, eσ58_68.1, eσ58_68.2, eσ58_70.1, eσ58_70.2, eσ58_71.1, eσ58_71.2, eσ58_73.1, eσ58_73.2, eσ58_74.1, eσ58_74.2, fun a k => (jσ58 a k).1, fun a k => (jσ58 a k).2, pσ58]
                unfold w_X16_growLook_216
                try simp only [forall_eq, rII, rIJ, rIP, rJJ, rJI, rJP, rPP, rPI, rPJ, g1, g2, g3, g4, g5, g6, g7, g8, Nat.reduceEqDiff, Nat.reduceAdd, false_and, and_false, true_and, and_true, reduceIte, nZ0, nZ1, eσ58_68.1, eσ58_68.2, eσ58_70.1, eσ58_70.2, eσ58_71.1, eσ58_71.2, eσ58_73.1, eσ58_73.2, eσ58_74.1, eσ58_74.2, fun a k => (jσ58 a k).1, fun a k => (jσ58 a k).2, pσ58]
                refine s_X16_leastWaiting g rσ58 (by assumption) (by (try simp only [rII, rIJ, rIP, rJJ, rJI, rJP, rPP, rPI, rPJ, g1, g2, g3, g4, g5, g6, g7, g8, Nat.reduceEqDiff, Nat.reduceAdd, false_and, and_false, true_and, and_true, reduceIte, nZ0, nZ1, eσ58_68.1, eσ58_68.2, eσ58_70.1, eσ58_70.2, eσ58_71.1, eσ58_71.2, eσ58_73.1, eσ58_73.2, eσ58_74.1, eσ58_74.2, fun a k => (jσ58 a k).1, fun a k => (jσ58 a k).2, pσ58]) <;> (first | omega | with_reducible assumption | (unfold rng; omega) | (unfold rng; (repeat' split) <;> omega) | grind)) (by (try simp only [rII, rIJ, rIP, rJJ, rJI, rJP, rPP, rPI, rPJ, g1, g2, g3, g4, g5, g6, g7, g8, Nat.reduceEqDiff, Nat.reduceAdd, false_and, and_false, true_and, and_true, reduceIte, nZ0, nZ1, eσ58_68.1, eσ58_68.2, eσ58_70.1, eσ58_70.2, eσ58_71.1, eσ58_71.2, eσ58_73.1, eσ58_73.2, eσ58_74.1, eσ58_74.2, fun a k => (jσ58 a k).1, fun a k => (jσ58 a k).2, pσ58]) <;> (first | omega | with_reducible assumption | (unfold rng; omega) | (unfold rng; (repeat' split) <;> omega) | grind)) (fun r60 p22 => ?_)
                try simp only [forall_eq, rII, rIJ, rIP, rJJ, rJI, rJP, rPP, rPI, rPJ, g1, g2, g3, g4, g5, g6, g7, g8, Nat.reduceEqDiff, Nat.reduceAdd, false_and, and_false, true_and, and_true, reduceIte, nZ0, nZ1, eσ58_68.1, eσ58_68.2, eσ58_70.1, eσ58_70.2, eσ58_71.1, eσ58_71.2, eσ58_73.1, eσ58_73.2, eσ58_74.1, eσ58_74.2, fun a k => (jσ58 a k).1, fun a k => (jσ58 a k).2, pσ58]
                have pl9 := Or.imp id (fun q => And.intro q.1 q.2.2) p22
                refine ih48 _ _ ?_ ?_ ?_ ?_
                · exact rσ58
                · exact fσ58
                · exact ⟨_, _, ⟨⟨⟨re9, me9⟩, pe9⟩, pl9⟩, by omega⟩
                · omega
              · rename_i hc89
                skip
                unfold w_X16_growLook_92
                try simp only [forall_eq, rII, rIJ, rIP, rJJ, rJI, rJP, rPP, rPI, rPJ, g1, g2, g3, g4, g5, g6, g7, g8, Nat.reduceEqDiff, Nat.reduceAdd, false_and, and_false, true_and, and_true, reduceIte, nZ0, nZ1, eτ85_68.1, eτ85_68.2, eτ85_70.1, eτ85_70.2, eτ85_71.1, eτ85_71.2, eτ85_73.1, eτ85_73.2, eτ85_74.1, eτ85_74.2, fun a k => (jτ85 a k).1, fun a k => (jτ85 a k).2, pτ85]
                split
                · rename_i hc102
                  skip
                  unfold w_X16_growLook_121
                  try simp only [forall_eq, rII, rIJ, rIP, rJJ, rJI, rJP, rPP, rPI, rPJ, g1, g2, g3, g4, g5, g6, g7, g8, Nat.reduceEqDiff, Nat.reduceAdd, false_and, and_false, true_and, and_true, reduceIte, nZ0, nZ1, eτ85_68.1, eτ85_68.2, eτ85_70.1, eτ85_70.2, eτ85_71.1, eτ85_71.2, eτ85_73.1, eτ85_73.2, eτ85_74.1, eτ85_74.2, fun a k => (jτ85 a k).1, fun a k => (jτ85 a k).2, pτ85]
                  refine ⟨by (first | omega | with_reducible assumption | (unfold rng; omega) | (unfold rng; (repeat' split) <;> omega) | grind), ?_⟩
                  split
                  · rename_i hc128
                    skip
                    unfold w_X16_growLook_150
                    try simp only [forall_eq, rII, rIJ, rIP, rJJ, rJI, rJP, rPP, rPI, rPJ, g1, g2, g3, g4, g5, g6, g7, g8, Nat.reduceEqDiff, Nat.reduceAdd, false_and, and_false, true_and, and_true, reduceIte, nZ0, nZ1, eτ85_68.1, eτ85_68.2, eτ85_70.1, eτ85_70.2, eτ85_71.1, eτ85_71.2, eτ85_73.1, eτ85_73.2, eτ85_74.1, eτ85_74.2, fun a k => (jτ85 a k).1, fun a k => (jτ85 a k).2, pτ85]
                    unfold w_X16_growLook_151
                    try simp only [forall_eq, rII, rIJ, rIP, rJJ, rJI, rJP, rPP, rPI, rPJ, g1, g2, g3, g4, g5, g6, g7, g8, Nat.reduceEqDiff, Nat.reduceAdd, false_and, and_false, true_and, and_true, reduceIte, nZ0, nZ1, eτ85_68.1, eτ85_68.2, eτ85_70.1, eτ85_70.2, eτ85_71.1, eτ85_71.2, eτ85_73.1, eτ85_73.2, eτ85_74.1, eτ85_74.2, fun a k => (jτ85 a k).1, fun a k => (jτ85 a k).2, pτ85]
                    refine ⟨by (first | omega | with_reducible assumption | (unfold rng; omega) | (unfold rng; (repeat' split) <;> omega) | grind), ?_⟩
                    refine ⟨by (first | omega | with_reducible assumption | (unfold rng; omega) | (unfold rng; (repeat' split) <;> omega) | grind), ?_⟩
                    refine ih85 _ _ ?_ ?_ ?_ ?_
                    · refine Rg.aJ g ?_ (by simp only [rlT]; first | with_reducible assumption | omega | exact Int64.toInt_le _ | (rw [Int64.toInt_ofInt_of_le (by omega) (by omega)]; omega) | grind); exact rτ85
                    · refine Fr.aJ g ?_ (by decide); exact fτ85
                    · refine ⟨?_, ?_, ?_, ?_, ?_, ?_⟩ <;> (first | with_reducible assumption | omega | exact RecI.fr (jx := jx) (K := [82]) (S := []) (by assumption) (by repeat (first | exact Fr.rf | assumption | refine Fr.aJ g ?_ (by decide) | refine Fr.aI g ?_ (by decide) | refine Fr.sI g ?_ (by decide) | refine Fr.sJ g ?_ (by decide))) (by decide) (by decide) | exact MtI.fr (rm := rm) (K := [82]) (S := []) (by assumption) (by repeat (first | exact Fr.rf | assumption | refine Fr.aJ g ?_ (by decide) | refine Fr.aI g ?_ (by decide) | refine Fr.sI g ?_ (by decide) | refine Fr.sJ g ?_ (by decide))) (by decide) | exact ThE.fr (jx := jx) (K := [82]) (S := []) (by assumption) (by repeat (first | exact Fr.rf | assumption | refine Fr.aJ g ?_ (by decide) | refine Fr.aI g ?_ (by decide) | refine Fr.sI g ?_ (by decide) | refine Fr.sJ g ?_ (by decide))) (by decide) (by decide) | exact HeE.fr (jx := jx) (K := [82]) (S := []) (by assumption) (by repeat (first | exact Fr.rf | assumption | refine Fr.aJ g ?_ (by decide) | refine Fr.aI g ?_ (by decide) | refine Fr.sI g ?_ (by decide) | refine Fr.sJ g ?_ (by decide))) (by decide) (by decide) | ((try simp only [rII, rIJ, rIP, rJJ, rJI, rJP, rPP, rPI, rPJ, g1, g2, g3, g4, g5, g6, g7, g8, Nat.reduceEqDiff, Nat.reduceAdd, false_and, and_false, true_and, and_true, reduceIte, nZ0, nZ1, eτ85_68.1, eτ85_68.2, eτ85_70.1, eτ85_70.2, eτ85_71.1, eτ85_71.2, eτ85_73.1, eτ85_73.2, eτ85_74.1, eτ85_74.2, fun a k => (jτ85 a k).1, fun a k => (jτ85 a k).2, pτ85]) <;> first | omega | assumption | grind))
                    · (try simp only [rII, rIJ, rIP, rJJ, rJI, rJP, rPP, rPI, rPJ, g1, g2, g3, g4, g5, g6, g7, g8, Nat.reduceEqDiff, Nat.reduceAdd, false_and, and_false, true_and, and_true, reduceIte, nZ0, nZ1, eτ85_68.1, eτ85_68.2, eτ85_70.1, eτ85_70.2, eτ85_71.1, eτ85_71.2, eτ85_73.1, eτ85_73.2, eτ85_74.1, eτ85_74.2, fun a k => (jτ85 a k).1, fun a k => (jτ85 a k).2, pτ85]) <;> (first | omega | with_reducible assumption | (unfold rng; omega) | (unfold rng; (repeat' split) <;> omega) | grind)
                  · rename_i hc128
                    skip
                    unfold w_X16_growLook_131
                    try simp only [forall_eq, rII, rIJ, rIP, rJJ, rJI, rJP, rPP, rPI, rPJ, g1, g2, g3, g4, g5, g6, g7, g8, Nat.reduceEqDiff, Nat.reduceAdd, false_and, and_false, true_and, and_true, reduceIte, nZ0, nZ1, eτ85_68.1, eτ85_68.2, eτ85_70.1, eτ85_70.2, eτ85_71.1, eτ85_71.2, eτ85_73.1, eτ85_73.2, eτ85_74.1, eτ85_74.2, fun a k => (jτ85 a k).1, fun a k => (jτ85 a k).2, pτ85]
                    refine ⟨by (first | omega | with_reducible assumption | (unfold rng; omega) | (unfold rng; (repeat' split) <;> omega) | grind), ?_⟩
                    refine ⟨by (first | omega | with_reducible assumption | (unfold rng; omega) | (unfold rng; (repeat' split) <;> omega) | grind), ?_⟩
                    refine ⟨by (first | omega | with_reducible assumption | (unfold rng; omega) | (unfold rng; (repeat' split) <;> omega) | grind), ?_⟩
                    refine ⟨by (first | omega | with_reducible assumption | (unfold rng; omega) | (unfold rng; (repeat' split) <;> omega) | grind), ?_⟩
                    unfold w_X16_growLook_151
                    try simp only [forall_eq, rII, rIJ, rIP, rJJ, rJI, rJP, rPP, rPI, rPJ, g1, g2, g3, g4, g5, g6, g7, g8, Nat.reduceEqDiff, Nat.reduceAdd, false_and, and_false, true_and, and_true, reduceIte, nZ0, nZ1, eτ85_68.1, eτ85_68.2, eτ85_70.1, eτ85_70.2, eτ85_71.1, eτ85_71.2, eτ85_73.1, eτ85_73.2, eτ85_74.1, eτ85_74.2, fun a k => (jτ85 a k).1, fun a k => (jτ85 a k).2, pτ85]
                    refine ⟨by (first | omega | with_reducible assumption | (unfold rng; omega) | (unfold rng; (repeat' split) <;> omega) | grind), ?_⟩
                    refine ⟨by (first | omega | with_reducible assumption | (unfold rng; omega) | (unfold rng; (repeat' split) <;> omega) | grind), ?_⟩
                    refine ih85 _ _ ?_ ?_ ?_ ?_
                    · refine Rg.aJ g ?_ (by simp only [rlT]; first | with_reducible assumption | omega | exact Int64.toInt_le _ | (rw [Int64.toInt_ofInt_of_le (by omega) (by omega)]; omega) | grind); exact rτ85
                    · refine Fr.aJ g ?_ (by decide); exact fτ85
                    · refine ⟨?_, ?_, ?_, ?_, ?_, ?_⟩ <;> (first | with_reducible assumption | omega | exact RecI.fr (jx := jx) (K := [82]) (S := []) (by assumption) (by repeat (first | exact Fr.rf | assumption | refine Fr.aJ g ?_ (by decide) | refine Fr.aI g ?_ (by decide) | refine Fr.sI g ?_ (by decide) | refine Fr.sJ g ?_ (by decide))) (by decide) (by decide) | exact MtI.fr (rm := rm) (K := [82]) (S := []) (by assumption) (by repeat (first | exact Fr.rf | assumption | refine Fr.aJ g ?_ (by decide) | refine Fr.aI g ?_ (by decide) | refine Fr.sI g ?_ (by decide) | refine Fr.sJ g ?_ (by decide))) (by decide) | exact ThE.fr (jx := jx) (K := [82]) (S := []) (by assumption) (by repeat (first | exact Fr.rf | assumption | refine Fr.aJ g ?_ (by decide) | refine Fr.aI g ?_ (by decide) | refine Fr.sI g ?_ (by decide) | refine Fr.sJ g ?_ (by decide))) (by decide) (by decide) | exact HeE.fr (jx := jx) (K := [82]) (S := []) (by assumption) (by repeat (first | exact Fr.rf | assumption | refine Fr.aJ g ?_ (by decide) | refine Fr.aI g ?_ (by decide) | refine Fr.sI g ?_ (by decide) | refine Fr.sJ g ?_ (by decide))) (by decide) (by decide) | ((try simp only [rII, rIJ, rIP, rJJ, rJI, rJP, rPP, rPI, rPJ, g1, g2, g3, g4, g5, g6, g7, g8, Nat.reduceEqDiff, Nat.reduceAdd, false_and, and_false, true_and, and_true, reduceIte, nZ0, nZ1, eτ85_68.1, eτ85_68.2, eτ85_70.1, eτ85_70.2, eτ85_71.1, eτ85_71.2, eτ85_73.1, eτ85_73.2, eτ85_74.1, eτ85_74.2, fun a k => (jτ85 a k).1, fun a k => (jτ85 a k).2, pτ85]) <;> first | omega | assumption | grind))
                    · (try simp only [rII, rIJ, rIP, rJJ, rJI, rJP, rPP, rPI, rPJ, g1, g2, g3, g4, g5, g6, g7, g8, Nat.reduceEqDiff, Nat.reduceAdd, false_and, and_false, true_and, and_true, reduceIte, nZ0, nZ1, eτ85_68.1, eτ85_68.2, eτ85_70.1, eτ85_70.2, eτ85_71.1, eτ85_71.2, eτ85_73.1, eτ85_73.2, eτ85_74.1, eτ85_74.2, fun a k => (jτ85 a k).1, fun a k => (jτ85 a k).2, pτ85]) <;> (first | omega | with_reducible assumption | (unfold rng; omega) | (unfold rng; (repeat' split) <;> omega) | grind)
                · rename_i hc102
                  skip
                  unfold w_X16_growLook_105
                  try simp only [forall_eq, rII, rIJ, rIP, rJJ, rJI, rJP, rPP, rPI, rPJ, g1, g2, g3, g4, g5, g6, g7, g8, Nat.reduceEqDiff, Nat.reduceAdd, false_and, and_false, true_and, and_true, reduceIte, nZ0, nZ1, eτ85_68.1, eτ85_68.2, eτ85_70.1, eτ85_70.2, eτ85_71.1, eτ85_71.2, eτ85_73.1, eτ85_73.2, eτ85_74.1, eτ85_74.2, fun a k => (jτ85 a k).1, fun a k => (jτ85 a k).2, pτ85]
                  refine ⟨by (first | omega | with_reducible assumption | (unfold rng; omega) | (unfold rng; (repeat' split) <;> omega) | grind), ?_⟩
                  refine ⟨by (first | omega | with_reducible assumption | (unfold rng; omega) | (unfold rng; (repeat' split) <;> omega) | grind), ?_⟩
                  refine ⟨by (first | omega | with_reducible assumption | (unfold rng; omega) | (unfold rng; (repeat' split) <;> omega) | grind), ?_⟩
                  unfold w_X16_growLook_151
                  try simp only [forall_eq, rII, rIJ, rIP, rJJ, rJI, rJP, rPP, rPI, rPJ, g1, g2, g3, g4, g5, g6, g7, g8, Nat.reduceEqDiff, Nat.reduceAdd, false_and, and_false, true_and, and_true, reduceIte, nZ0, nZ1, eτ85_68.1, eτ85_68.2, eτ85_70.1, eτ85_70.2, eτ85_71.1, eτ85_71.2, eτ85_73.1, eτ85_73.2, eτ85_74.1, eτ85_74.2, fun a k => (jτ85 a k).1, fun a k => (jτ85 a k).2, pτ85]
                  refine ⟨by (first | omega | with_reducible assumption | (unfold rng; omega) | (unfold rng; (repeat' split) <;> omega) | grind), ?_⟩
                  refine ⟨by (first | omega | with_reducible assumption | (unfold rng; omega) | (unfold rng; (repeat' split) <;> omega) | grind), ?_⟩
                  refine ih85 _ _ ?_ ?_ ?_ ?_
                  · refine Rg.aJ g ?_ (by simp only [rlT]; first | with_reducible assumption | omega | exact Int64.toInt_le _ | (rw [Int64.toInt_ofInt_of_le (by omega) (by omega)]; omega) | grind); exact rτ85
                  · refine Fr.aJ g ?_ (by decide); exact fτ85
                  · refine ⟨?_, ?_, ?_, ?_, ?_, ?_⟩ <;> (first | with_reducible assumption | omega | exact RecI.fr (jx := jx) (K := [82]) (S := []) (by assumption) (by repeat (first | exact Fr.rf | assumption | refine Fr.aJ g ?_ (by decide) | refine Fr.aI g ?_ (by decide) | refine Fr.sI g ?_ (by decide) | refine Fr.sJ g ?_ (by decide))) (by decide) (by decide) | exact MtI.fr (rm := rm) (K := [82]) (S := []) (by assumption) (by repeat (first | exact Fr.rf | assumption | refine Fr.aJ g ?_ (by decide) | refine Fr.aI g ?_ (by decide) | refine Fr.sI g ?_ (by decide) | refine Fr.sJ g ?_ (by decide))) (by decide) | exact ThE.fr (jx := jx) (K := [82]) (S := []) (by assumption) (by repeat (first | exact Fr.rf | assumption | refine Fr.aJ g ?_ (by decide) | refine Fr.aI g ?_ (by decide) | refine Fr.sI g ?_ (by decide) | refine Fr.sJ g ?_ (by decide))) (by decide) (by decide) | exact HeE.fr (jx := jx) (K := [82]) (S := []) (by assumption) (by repeat (first | exact Fr.rf | assumption | refine Fr.aJ g ?_ (by decide) | refine Fr.aI g ?_ (by decide) | refine Fr.sI g ?_ (by decide) | refine Fr.sJ g ?_ (by decide))) (by decide) (by decide) | ((try simp only [rII, rIJ, rIP, rJJ, rJI, rJP, rPP, rPI, rPJ, g1, g2, g3, g4, g5, g6, g7, g8, Nat.reduceEqDiff, Nat.reduceAdd, false_and, and_false, true_and, and_true, reduceIte, nZ0, nZ1, eτ85_68.1, eτ85_68.2, eτ85_70.1, eτ85_70.2, eτ85_71.1, eτ85_71.2, eτ85_73.1, eτ85_73.2, eτ85_74.1, eτ85_74.2, fun a k => (jτ85 a k).1, fun a k => (jτ85 a k).2, pτ85]) <;> first | omega | assumption | grind))
                  · (try simp only [rII, rIJ, rIP, rJJ, rJI, rJP, rPP, rPI, rPJ, g1, g2, g3, g4, g5, g6, g7, g8, Nat.reduceEqDiff, Nat.reduceAdd, false_and, and_false, true_and, and_true, reduceIte, nZ0, nZ1, eτ85_68.1, eτ85_68.2, eτ85_70.1, eτ85_70.2, eτ85_71.1, eτ85_71.2, eτ85_73.1, eτ85_73.2, eτ85_74.1, eτ85_74.2, fun a k => (jτ85 a k).1, fun a k => (jτ85 a k).2, pτ85]) <;> (first | omega | with_reducible assumption | (unfold rng; omega) | (unfold rng; (repeat' split) <;> omega) | grind)
          refine ⟨_, L85 _ _ _ ?_ ?_ ?_ (Nat.lt_succ_self _)⟩
          · exact rτ48
          · exact fτ48
          · refine ⟨?_, ?_, ?_, ?_, ?_, ?_⟩ <;> (first | with_reducible assumption | omega | exact RecI.fr (jx := jx) (K := [82]) (S := []) (by assumption) (by repeat (first | exact Fr.rf | assumption | refine Fr.aJ g ?_ (by decide) | refine Fr.aI g ?_ (by decide) | refine Fr.sI g ?_ (by decide) | refine Fr.sJ g ?_ (by decide))) (by decide) (by decide) | exact MtI.fr (rm := rm) (K := [82]) (S := []) (by assumption) (by repeat (first | exact Fr.rf | assumption | refine Fr.aJ g ?_ (by decide) | refine Fr.aI g ?_ (by decide) | refine Fr.sI g ?_ (by decide) | refine Fr.sJ g ?_ (by decide))) (by decide) | exact ThE.fr (jx := jx) (K := [82]) (S := []) (by assumption) (by repeat (first | exact Fr.rf | assumption | refine Fr.aJ g ?_ (by decide) | refine Fr.aI g ?_ (by decide) | refine Fr.sI g ?_ (by decide) | refine Fr.sJ g ?_ (by decide))) (by decide) (by decide) | exact HeE.fr (jx := jx) (K := [82]) (S := []) (by assumption) (by repeat (first | exact Fr.rf | assumption | refine Fr.aJ g ?_ (by decide) | refine Fr.aI g ?_ (by decide) | refine Fr.sI g ?_ (by decide) | refine Fr.sJ g ?_ (by decide))) (by decide) (by decide) | ((try simp only [rII, rIJ, rIP, rJJ, rJI, rJP, rPP, rPI, rPJ, g1, g2, g3, g4, g5, g6, g7, g8, Nat.reduceEqDiff, Nat.reduceAdd, false_and, and_false, true_and, and_true, reduceIte, nZ0, nZ1, eτ48_68.1, eτ48_68.2, eτ48_70.1, eτ48_70.2, eτ48_71.1, eτ48_71.2, eτ48_73.1, eτ48_73.2, eτ48_74.1, eτ48_74.2, fun a k => (jτ48 a k).1, fun a k => (jτ48 a k).2, pτ48]) <;> first | omega | assumption | grind))
  refine ⟨((gI σ (ra 78) v1.toNat).toNat) + 1, L48 _ _ _ ?_ ?_ ?_ (by omega)⟩
  · exact rσ
  · exact fσ
  · exact ⟨own0, ps0, ⟨⟨⟨hr0, hm0⟩, hth⟩, pl9⟩, Nat.lt_succ_self _⟩
set_option maxHeartbeats 8000000 in
theorem s_X16_growUnique {ra : Nat → Nat} {jx : Nat → Nat → Nat} {rm : Nat} {ja : Nat} (g : Geo ra jx rm) {σ : Sg} {v1 : Int} {v2 : Int} {v3 : Int64} (rσ : Rg ra jx rm σ) (hj : gP σ rm 17 = some ja) (hja : ja = ra 15 ∨ ja = ra 16) (hre : RecE ra jx rm ja σ) (hth : ThE ra rm σ) (h1 : 0 ≤ v1 ∧ v1 < 64) (h2 : 0 ≤ v2 ∧ v2 < 16) (h3 : v3.toInt ≤ 4611686018427387904) (hp : 1 ≤ gI σ rm 33) (hf : 0 ≤ gI σ (jx ja 4) v2.toNat) (hto : gI σ (ra 38) v1.toNat = v2) (hk : gI σ (jx ja 2) v2.toNat ≠ 8) {Q : Sg → Unit → Prop} {X : Sg → String → Prop} (hQ : ∀ (σ' : Sg) (r : Unit), Rg ra jx rm σ' → Fr ra jx rm [46, 47, 48, 49, 60, 61, 62, 63, 64, 65, 68, 69, 70, 71, 72, 73, 74, 75, 76, 77, 78, 82] [66, 67, 79, 80] σ σ' → (RecE ra jx rm ja σ' ∧ ThE ra rm σ') → Q σ' r) (hX : ∀ (σ' : Sg) (E : String), Rg ra jx rm σ' → Fr ra jx rm [46, 47, 48, 49, 60, 61, 62, 63, 64, 65, 68, 69, 70, 71, 72, 73, 74, 75, 76, 77, 78, 82] [66, 67, 79, 80] σ σ' → (E = "StreamHouseModel$Broken" ∧ ThE ra rm σ' ∧ RecE ra jx rm ja σ') → X σ' E) : wp_X16_growUnique ra jx rm v1 v2 v3 σ Q X := by
  obtain ⟨g1, g2, g3, g4, g5, g6, g7, g8⟩ := id g
  have fσ : Fr ra jx rm [46, 47, 48, 49, 60, 61, 62, 63, 64, 65, 68, 69, 70, 71, 72, 73, 74, 75, 76, 77, 78, 82] [66, 67, 79, 80] σ σ := Fr.rf
  obtain ⟨own0, ps0, hr0, hm0⟩ := id hre
  unfold wp_X16_growUnique
  unfold w_X16_growUnique_0
  try simp only [forall_eq, rII, rIJ, rIP, rJJ, rJI, rJP, rPP, rPI, rPJ, g1, g2, g3, g4, g5, g6, g7, g8, Nat.reduceEqDiff, Nat.reduceAdd, false_and, and_false, true_and, and_true, reduceIte, nZ0, nZ1]
  refine ⟨ja, by exact hj, hja, ?_⟩
  refine ⟨ja, by exact hj, hja, ?_⟩
  refine ⟨by (first | omega | with_reducible assumption | (unfold rng; omega) | (unfold rng; (repeat' split) <;> omega) | grind), ?_⟩
  have q1 := rσ.2.2.1 ja 4 (v2.toNat); simp only [rgJ] at q1
  refine ⟨by (first | omega | with_reducible assumption | (unfold rng; omega) | (unfold rng; (repeat' split) <;> omega) | grind), ?_⟩
  have q2 := rσ.2.2.1 ja 6 ((gI σ (jx ja 4) v2.toNat).toNat); simp only [rgJ] at q2
  refine s_X16_leastWaiting g rσ (by assumption) (by (try simp only [rII, rIJ, rIP, rJJ, rJI, rJP, rPP, rPI, rPJ, g1, g2, g3, g4, g5, g6, g7, g8, Nat.reduceEqDiff, Nat.reduceAdd, false_and, and_false, true_and, and_true, reduceIte, nZ0, nZ1]) <;> (first | omega | with_reducible assumption | (unfold rng; omega) | (unfold rng; (repeat' split) <;> omega) | grind)) (by (try simp only [rII, rIJ, rIP, rJJ, rJI, rJP, rPP, rPI, rPJ, g1, g2, g3, g4, g5, g6, g7, g8, Nat.reduceEqDiff, Nat.reduceAdd, false_and, and_false, true_and, and_true, reduceIte, nZ0, nZ1]) <;> (first | omega | with_reducible assumption | (unfold rng; omega) | (unfold rng; (repeat' split) <;> omega) | grind)) (fun r34 p3 => ?_)
  try simp only [forall_eq, rII, rIJ, rIP, rJJ, rJI, rJP, rPP, rPI, rPJ, g1, g2, g3, g4, g5, g6, g7, g8, Nat.reduceEqDiff, Nat.reduceAdd, false_and, and_false, true_and, and_true, reduceIte, nZ0, nZ1]
  have pl9 := p3
  have L29 : ∀ (fu29 : Nat) (τ29 : Sg) (v6 : Int), Rg ra jx rm τ29 → Fr ra jx rm [46, 47, 48, 49, 60, 61, 62, 63, 64, 65, 68, 69, 70, 71, 72, 73, 74, 75, 76, 77, 78, 82] [66, 67, 79, 80] σ τ29 → (∃ own ps, (((RecI ra rm τ29 own ps ∧ MtI ra jx ja τ29 own) ∧ ThE ra rm τ29) ∧ (v6 = -1 ∨ (own v6 = v1 ∧ gI τ29 (ra 68) v6.toNat = 0 ∧ 0 ≤ v6 ∧ v6 < 4000))) ∧ ((cz ra τ29 own v1).toNat) < fu29) → (0) < 1 + 0 * 29 → wl_X16_growUnique_29 ra jx rm Q X fu29 τ29 v1 v2 v3 (gI σ (jx ja 6) (gI σ (jx ja 4) v2.toNat).toNat) v6 := by
    intro fu29
    induction fu29 with
    | zero => intro τ29 _ _ _ h9 _; obtain ⟨_, _, h9⟩ := h9; omega
    | succ fu29 ih29 =>
      intro τ29 v6 rτ29 fτ29 hi29 hm29
      obtain ⟨own, ps, hi29, hm29⟩ := hi29
      unfold wl_X16_growUnique_29
      have eτ29_38 := fτ29.1 38 (by decide)
      have jτ29 := fτ29.2.2.1
      have pτ29 := fτ29.2.2.2
      unfold w_X16_growUnique_29
      try simp only [forall_eq, rII, rIJ, rIP, rJJ, rJI, rJP, rPP, rPI, rPJ, g1, g2, g3, g4, g5, g6, g7, g8, Nat.reduceEqDiff, Nat.reduceAdd, false_and, and_false, true_and, and_true, reduceIte, nZ0, nZ1, eτ29_38.1, eτ29_38.2, fun a k => (jτ29 a k).1, fun a k => (jτ29 a k).2, pτ29]
      have hrA := hi29.1.1.1; have hmA := hi29.1.1.2; have htA := hi29.1.2
      have hhd := hrA.hd h1
      split
      · rename_i hc32
        skip
        unfold w_X16_growUnique_264
        try simp only [forall_eq, rII, rIJ, rIP, rJJ, rJI, rJP, rPP, rPI, rPJ, g1, g2, g3, g4, g5, g6, g7, g8, Nat.reduceEqDiff, Nat.reduceAdd, false_and, and_false, true_and, and_true, reduceIte, nZ0, nZ1, eτ29_38.1, eτ29_38.2, fun a k => (jτ29 a k).1, fun a k => (jτ29 a k).2, pτ29]
        refine ⟨by (first | omega | with_reducible assumption | (unfold rng; omega) | (unfold rng; (repeat' split) <;> omega) | grind), ?_⟩
        have q4 := rτ29.1 76 (v1.toNat); simp only [rgT] at q4
        have L272 : ∀ (fu272 : Nat) (τ272 : Sg) (v6 : Int), Rg ra jx rm τ272 → Fr ra jx rm [46, 47, 48, 49, 60, 61, 62, 63, 64, 65, 68, 69, 70, 71, 72, 73, 74, 75, 76, 77, 78, 82] [66, 67, 79, 80] σ τ272 → (∃ own ps, (((RecI ra rm τ272 own ps ∧ MtI ra jx ja τ272 own) ∧ ThE ra rm τ272) ∧ (v6 = -1 ∨ own v6 = v1)) ∧ (lmm ra τ272 v1 ps v6) < fu272) → (0) < 1 + 0 * 272 → wl_X16_growUnique_272 ra jx rm Q X fu272 τ272 v2 v3 v6 := by
          intro fu272
          induction fu272 with
          | zero => intro τ272 _ _ _ h9 _; obtain ⟨_, _, h9⟩ := h9; omega
          | succ fu272 ih272 =>
            intro τ272 v6 rτ272 fτ272 hi272 hm272
            obtain ⟨own, ps, hi272, hm272⟩ := hi272
            unfold wl_X16_growUnique_272
            have eτ272_38 := fτ272.1 38 (by decide)
            have jτ272 := fτ272.2.2.1
            have pτ272 := fτ272.2.2.2
            unfold w_X16_growUnique_272
            try simp only [forall_eq, rII, rIJ, rIP, rJJ, rJI, rJP, rPP, rPI, rPJ, g1, g2, g3, g4, g5, g6, g7, g8, Nat.reduceEqDiff, Nat.reduceAdd, false_and, and_false, true_and, and_true, reduceIte, nZ0, nZ1, eτ272_38.1, eτ272_38.2, fun a k => (jτ272 a k).1, fun a k => (jτ272 a k).2, pτ272]
            split
            · rename_i hc275
              skip
              unfold w_X16_growUnique_335
              try simp only [forall_eq, rII, rIJ, rIP, rJJ, rJI, rJP, rPP, rPI, rPJ, g1, g2, g3, g4, g5, g6, g7, g8, Nat.reduceEqDiff, Nat.reduceAdd, false_and, and_false, true_and, and_true, reduceIte, nZ0, nZ1, eτ272_38.1, eτ272_38.2, fun a k => (jτ272 a k).1, fun a k => (jτ272 a k).2, pτ272]
              refine hQ _ _ ?_ ?_ ?_
              · exact rτ272
              · exact fτ272
              · exact ⟨⟨_, _, hi272.1.1.1, hi272.1.1.2⟩, hi272.1.2⟩
            · rename_i hc275
              skip
              unfold w_X16_growUnique_278
              try simp only [forall_eq, rII, rIJ, rIP, rJJ, rJI, rJP, rPP, rPI, rPJ, g1, g2, g3, g4, g5, g6, g7, g8, Nat.reduceEqDiff, Nat.reduceAdd, false_and, and_false, true_and, and_true, reduceIte, nZ0, nZ1, eτ272_38.1, eτ272_38.2, fun a k => (jτ272 a k).1, fun a k => (jτ272 a k).2, pτ272]
              have hov := hi272.2.resolve_left (by assumption)
              have nv6 := hi272.1.1.1.nd hov h1
              have hrA := hi272.1.1.1; have hmA := hi272.1.1.2; have htA := hi272.1.2
              refine ⟨by (first | omega | with_reducible assumption | (unfold rng; omega) | (unfold rng; (repeat' split) <;> omega) | grind), ?_⟩
              refine ⟨by (first | omega | with_reducible assumption | (unfold rng; omega) | (unfold rng; (repeat' split) <;> omega) | grind), ?_⟩
              have q5 := rτ272.1 68 (v6.toNat); simp only [rgT] at q5
              split
              · rename_i hc295
                skip
                unfold w_X16_growUnique_328
                try simp only [forall_eq, rII, rIJ, rIP, rJJ, rJI, rJP, rPP, rPI, rPJ, g1, g2, g3, g4, g5, g6, g7, g8, Nat.reduceEqDiff, Nat.reduceAdd, false_and, and_false, true_and, and_true, reduceIte, nZ0, nZ1, eτ272_38.1, eτ272_38.2, fun a k => (jτ272 a k).1, fun a k => (jτ272 a k).2, pτ272]
                have q6 := rτ272.1 75 (v6.toNat); simp only [rgT] at q6
                refine ih272 _ _ ?_ ?_ ?_ ?_
                · exact rτ272
                · exact fτ272
                · first | exact stepDT hi272.1.1.1 hi272.1.1.2 hi272.1.2 h1 hov p9 fc9 hm272 | exact stepKT hi272.1.1.1 hi272.1.1.2 hi272.1.2 h1 hov hm272
                · omega
              · rename_i hc295
                skip
                unfold w_X16_growUnique_298
                try simp only [forall_eq, rII, rIJ, rIP, rJJ, rJI, rJP, rPP, rPI, rPJ, g1, g2, g3, g4, g5, g6, g7, g8, Nat.reduceEqDiff, Nat.reduceAdd, false_and, and_false, true_and, and_true, reduceIte, nZ0, nZ1, eτ272_38.1, eτ272_38.2, fun a k => (jτ272 a k).1, fun a k => (jτ272 a k).2, pτ272]
                refine ⟨by (first | omega | with_reducible assumption | (unfold rng; omega) | (unfold rng; (repeat' split) <;> omega) | grind), ?_⟩
                refine ⟨ja, by exact hj, hja, ?_⟩
                refine ⟨by (first | omega | with_reducible assumption | (unfold rng; omega) | (unfold rng; (repeat' split) <;> omega) | grind), ?_⟩
                split
                · rename_i hc319
                  skip
                  unfold w_X16_growUnique_328
                  try simp only [forall_eq, rII, rIJ, rIP, rJJ, rJI, rJP, rPP, rPI, rPJ, g1, g2, g3, g4, g5, g6, g7, g8, Nat.reduceEqDiff, Nat.reduceAdd, false_and, and_false, true_and, and_true, reduceIte, nZ0, nZ1, eτ272_38.1, eτ272_38.2, fun a k => (jτ272 a k).1, fun a k => (jτ272 a k).2, pτ272]
                  have q7 := rτ272.1 75 (v6.toNat); simp only [rgT] at q7
                  refine ih272 _ _ ?_ ?_ ?_ ?_
                  · exact rτ272
                  · exact fτ272
                  · first | exact stepDT hi272.1.1.1 hi272.1.1.2 hi272.1.2 h1 hov p9 fc9 hm272 | exact stepKT hi272.1.1.1 hi272.1.1.2 hi272.1.2 h1 hov hm272
                  · omega
                · rename_i hc319
                  skip
                  unfold w_X16_growUnique_322
                  try simp only [forall_eq, rII, rIJ, rIP, rJJ, rJI, rJP, rPP, rPI, rPJ, g1, g2, g3, g4, g5, g6, g7, g8, Nat.reduceEqDiff, Nat.reduceAdd, false_and, and_false, true_and, and_true, reduceIte, nZ0, nZ1, eτ272_38.1, eτ272_38.2, fun a k => (jτ272 a k).1, fun a k => (jτ272 a k).2, pτ272]
                  refine s_X16_drop g rτ272 (by assumption) h1 hov (fun σ36 _ rσ36 fc p8 => ?_)
                  have fσ36 : Fr ra jx rm [46, 47, 48, 49, 60, 61, 62, 63, 64, 65, 68, 69, 70, 71, 72, 73, 74, 75, 76, 77, 78, 82] [66, 67, 79, 80] σ σ36 := Fr.tr fτ272 (Fr.mor (fc) (by decide) (by decide))
                  have p9 := p8
                  have fc9 := fc
                  have pd := p8
                  have re9 := pd.1
                  have q78 := pd.2
                  have td := ThE.fr (by assumption) fc (by decide) (by decide)
                  have pe9 := td
                  have md := MtI.less (r := v6) (MtI.fr (by assumption) fc (by decide))
                  have me9 := md
                  have eσ36_38 := fσ36.1 38 (by decide)
                  have jσ36 := fσ36.2.2.1
                  have pσ36 := fσ36.2.2.2
                  try simp only [forall_eq, rII, rIJ, rIP, rJJ, rJI, rJP, rPP, rPI, rPJ, g1, g2, g3, g4, g5, g6, g7, g8, Nat.reduceEqDiff, Nat.reduceAdd, false_and, and_false, true_and, and_true, reduceIte, nZ0, nZ1, eσ36_38.1, eσ36_38.2, fun a k => (jσ36 a k).1, fun a k => (jσ36 a k).2, pσ36]
                  unfold w_X16_growUnique_328
                  try simp only [forall_eq, rII, rIJ, rIP, rJJ, rJI, rJP, rPP, rPI, rPJ, g1, g2, g3, g4, g5, g6, g7, g8, Nat.reduceEqDiff, Nat.reduceAdd, false_and, and_false, true_and, and_true, reduceIte, nZ0, nZ1, eσ36_38.1, eσ36_38.2, fun a k => (jσ36 a k).1, fun a k => (jσ36 a k).2, pσ36]
                  have q9 := rτ272.1 75 (v6.toNat); simp only [rgT] at q9
                  refine ih272 _ _ ?_ ?_ ?_ ?_
                  · exact rσ36
                  · exact fσ36
                  · first | exact stepDT hi272.1.1.1 hi272.1.1.2 hi272.1.2 h1 hov p9 fc9 hm272 | exact stepKT hi272.1.1.1 hi272.1.1.2 hi272.1.2 h1 hov hm272
                  · omega
        refine ⟨(lmm ra τ29 v1 ps (gI τ29 (ra 76) v1.toNat)) + 1, L272 _ _ _ ?_ ?_ ?_ (by omega)⟩
        · exact rτ29
        · exact fτ29
        · exact ⟨own, ps, ⟨⟨⟨hrA, hmA⟩, htA⟩, hrA.hd h1⟩, Nat.lt_succ_self _⟩
      · rename_i hc32
        skip
        unfold w_X16_growUnique_35
        try simp only [forall_eq, rII, rIJ, rIP, rJJ, rJI, rJP, rPP, rPI, rPJ, g1, g2, g3, g4, g5, g6, g7, g8, Nat.reduceEqDiff, Nat.reduceAdd, false_and, and_false, true_and, and_true, reduceIte, nZ0, nZ1, eτ29_38.1, eτ29_38.2, fun a k => (jτ29 a k).1, fun a k => (jτ29 a k).2, pτ29]
        have ho6 := hi29.2.resolve_left (by assumption)
        have n6 := hrA.nd ho6.1 h1
        have hov := ho6.1
        have h71 : (gJ τ29 (ra 71) v6.toNat).toInt ≤ 4611686018427387904 := rτ29.2.2.2 71 _
        have czp := cz_pos (ra := ra) (σ := τ29) ⟨ho6.2.2.1, ho6.2.2.2⟩ ho6.1 ho6.2.1
        refine ⟨by (first | omega | with_reducible assumption | (unfold rng; omega) | (unfold rng; (repeat' split) <;> omega) | grind), ?_⟩
        have q10 := rτ29.1 76 (v1.toNat); simp only [rgT] at q10
        have L46 : ∀ (fu46 : Nat) (v7 : Int) (v8 : Int), ((v8 = -1 ∨ own v8 = v1) ∧ (v7 = -1 ∨ (own v7 = v1 ∧ 0 ≤ v7 ∧ v7 < 4000))) → ((if v8 < 0 then 0 else gI τ29 (ra 78) v1.toNat - ps v8).toNat) < fu46 → wl_X16_growUnique_46 ra jx rm (wl_X16_growUnique_29 ra jx rm Q X fu29) Q X fu46 τ29 v1 v2 v3 (gI σ (jx ja 6) (gI σ (jx ja 4) v2.toNat).toNat) v6 v7 v8 := by
          intro fu46
          induction fu46 with
          | zero => intro  _ _ _ h9; omega
          | succ fu46 ih46 =>
            intro v7 v8 hi46 hm46
            unfold wl_X16_growUnique_46
            unfold w_X16_growUnique_46
            try simp only [forall_eq, rII, rIJ, rIP, rJJ, rJI, rJP, rPP, rPI, rPJ, g1, g2, g3, g4, g5, g6, g7, g8, Nat.reduceEqDiff, Nat.reduceAdd, false_and, and_false, true_and, and_true, reduceIte, nZ0, nZ1, eτ29_38.1, eτ29_38.2, fun a k => (jτ29 a k).1, fun a k => (jτ29 a k).2, pτ29]
            split
            · rename_i hc49
              skip
              unfold w_X16_growUnique_102
              try simp only [forall_eq, rII, rIJ, rIP, rJJ, rJI, rJP, rPP, rPI, rPJ, g1, g2, g3, g4, g5, g6, g7, g8, Nat.reduceEqDiff, Nat.reduceAdd, false_and, and_false, true_and, and_true, reduceIte, nZ0, nZ1, eτ29_38.1, eτ29_38.2, fun a k => (jτ29 a k).1, fun a k => (jτ29 a k).2, pτ29]
              refine ⟨by (first | omega | with_reducible assumption | (unfold rng; omega) | (unfold rng; (repeat' split) <;> omega) | grind), ?_⟩
              refine ⟨by (first | omega | with_reducible assumption | (unfold rng; omega) | (unfold rng; (repeat' split) <;> omega) | grind), ?_⟩
              refine ⟨by (first | omega | with_reducible assumption | (unfold rng; omega) | (unfold rng; (repeat' split) <;> omega) | grind), ?_⟩
              have q11 := rτ29.1 74 (v6.toNat); simp only [rgT] at q11
              have L132 : ∀ (fu132 : Nat) (τ132 : Sg) (v13 : Int), Rg ra jx rm τ132 → Fr ra jx rm [46, 47, 48, 49, 60, 61, 62, 63, 64, 65, 68, 69, 70, 71, 72, 73, 74, 75, 76, 77, 78, 82] [66, 67, 79, 80] σ τ132 → (RecI ra rm τ132 own ps ∧ MtI ra jx ja τ132 own ∧ ThE ra rm τ132 ∧ (∀ a, gI τ132 (ra 68) a = gI τ29 (ra 68) a) ∧ 0 ≤ v13 ∧ v13 ≤ 8) → ((8 - v13).toNat) < fu132 → wl_X16_growUnique_132 ra jx rm (wl_X16_growUnique_29 ra jx rm Q X fu29) Q X fu132 τ132 v1 v2 v3 (gI σ (jx ja 6) (gI σ (jx ja 4) v2.toNat).toNat) v6 v7 (gJ τ29 (ra 70) v6.toNat) (gJ τ29 (ra 71) v6.toNat) (gI τ29 (ra 74) v6.toNat) v13 := by
                intro fu132
                induction fu132 with
                | zero => intro τ132 _ _ _ _ h9; omega
                | succ fu132 ih132 =>
                  intro τ132 v13 rτ132 fτ132 hi132 hm132
                  unfold wl_X16_growUnique_132
                  have eτ132_38 := fτ132.1 38 (by decide)
                  have jτ132 := fτ132.2.2.1
                  have pτ132 := fτ132.2.2.2
                  unfold w_X16_growUnique_132
                  try simp only [forall_eq, rII, rIJ, rIP, rJJ, rJI, rJP, rPP, rPI, rPJ, g1, g2, g3, g4, g5, g6, g7, g8, Nat.reduceEqDiff, Nat.reduceAdd, false_and, and_false, true_and, and_true, reduceIte, nZ0, nZ1, eτ132_38.1, eτ132_38.2, fun a k => (jτ132 a k).1, fun a k => (jτ132 a k).2, pτ132]
                  obtain ⟨k1, k2, k3, k4, k5, k6⟩ := hi132
                  split
                  · rename_i hc136
                    skip
                    unfold w_X16_growUnique_165
                    try simp only [forall_eq, rII, rIJ, rIP, rJJ, rJI, rJP, rPP, rPI, rPJ, g1, g2, g3, g4, g5, g6, g7, g8, Nat.reduceEqDiff, Nat.reduceAdd, false_and, and_false, true_and, and_true, reduceIte, nZ0, nZ1, eτ132_38.1, eτ132_38.2, fun a k => (jτ132 a k).1, fun a k => (jτ132 a k).2, pτ132]
                    refine s_X16_drop g rτ132 (by assumption) h1 hov (fun σ37 _ rσ37 fc p12 => ?_)
                    have fσ37 : Fr ra jx rm [46, 47, 48, 49, 60, 61, 62, 63, 64, 65, 68, 69, 70, 71, 72, 73, 74, 75, 76, 77, 78, 82] [66, 67, 79, 80] σ σ37 := Fr.tr fτ132 (Fr.mor (fc) (by decide) (by decide))
                    have p9 := p12
                    have fc9 := fc
                    have pd := p12
                    have re9 := pd.1
                    have q78 := pd.2
                    have td := ThE.fr (by assumption) fc (by decide) (by decide)
                    have pe9 := td
                    have md := MtI.less (r := v6) (MtI.fr k2 fc (by decide))
                    have me9 := md
                    have czd := (cz_drop (σ := τ132) h1 ⟨ho6.2.2.1, ho6.2.2.2⟩ ho6.1 (fc.1 68 (by decide)).1).2 (by rw [k4]; exact ho6.2.1)
                    rw [cz_fr (σ := τ29) (funext k4)] at czd
                    have cz9 := czd
                    have eσ37_38 := fσ37.1 38 (by decide)
                    have jσ37 := fσ37.2.2.1
                    have pσ37 := fσ37.2.2.2
                    try simp only [forall_eq, rII, rIJ, rIP, rJJ, rJI, rJP, rPP, rPI, rPJ, g1, g2, g3, g4, g5, g6, g7, g8, Nat.reduceEqDiff, Nat.reduceAdd, false_and, and_false, true_and, and_true, reduceIte, nZ0, nZ1, eσ37_38.1, eσ37_38.2, fun a k => (jσ37 a k).1, fun a k => (jσ37 a k).2, pσ37]
                    split
                    · rename_i hc174
                      skip
                      unfold w_X16_growUnique_200
                      try simp only [forall_eq, rII, rIJ, rIP, rJJ, rJI, rJP, rPP, rPI, rPJ, g1, g2, g3, g4, g5, g6, g7, g8, Nat.reduceEqDiff, Nat.reduceAdd, false_and, and_false, true_and, and_true, reduceIte, nZ0, nZ1, eσ37_38.1, eσ37_38.2, fun a k => (jσ37 a k).1, fun a k => (jσ37 a k).2, pσ37]
                      rw [if_neg (show ¬ (v7 ≠ (-1)) by omega)]
                      unfold w_X16_growUnique_206
                      try simp only [forall_eq, rII, rIJ, rIP, rJJ, rJI, rJP, rPP, rPI, rPJ, g1, g2, g3, g4, g5, g6, g7, g8, Nat.reduceEqDiff, Nat.reduceAdd, false_and, and_false, true_and, and_true, reduceIte, nZ0, nZ1, eσ37_38.1, eσ37_38.2, fun a k => (jσ37 a k).1, fun a k => (jσ37 a k).2, pσ37]
                      refine s_X16_record (b9 := (ra 82)) (n9 := 16) g rσ37 rfl (Or.inl ⟨82, rfl, by decide⟩) (by assumption) (by (try simp only [rII, rIJ, rIP, rJJ, rJI, rJP, rPP, rPI, rPJ, g1, g2, g3, g4, g5, g6, g7, g8, Nat.reduceEqDiff, Nat.reduceAdd, false_and, and_false, true_and, and_true, reduceIte, nZ0, nZ1, eσ37_38.1, eσ37_38.2, fun a k => (jσ37 a k).1, fun a k => (jσ37 a k).2, pσ37]) <;> (first | omega | with_reducible assumption | (unfold rng; omega) | (unfold rng; (repeat' split) <;> omega) | grind)) (by (try simp only [rII, rIJ, rIP, rJJ, rJI, rJP, rPP, rPI, rPJ, g1, g2, g3, g4, g5, g6, g7, g8, Nat.reduceEqDiff, Nat.reduceAdd, false_and, and_false, true_and, and_true, reduceIte, nZ0, nZ1, eσ37_38.1, eσ37_38.2, fun a k => (jσ37 a k).1, fun a k => (jσ37 a k).2, pσ37]) <;> (first | omega | with_reducible assumption | (unfold rng; omega) | (unfold rng; (repeat' split) <;> omega) | grind)) (by exact rτ29.2.2.2 71 _) (by (try simp only [rII, rIJ, rIP, rJJ, rJI, rJP, rPP, rPI, rPJ, g1, g2, g3, g4, g5, g6, g7, g8, Nat.reduceEqDiff, Nat.reduceAdd, false_and, and_false, true_and, and_true, reduceIte, nZ0, nZ1, eσ37_38.1, eσ37_38.2, fun a k => (jσ37 a k).1, fun a k => (jσ37 a k).2, pσ37]) <;> (first | omega | with_reducible assumption | (unfold rng; omega) | (unfold rng; (repeat' split) <;> omega) | grind)) (by (try simp only [rII, rIJ, rIP, rJJ, rJI, rJP, rPP, rPI, rPJ, g1, g2, g3, g4, g5, g6, g7, g8, Nat.reduceEqDiff, Nat.reduceAdd, false_and, and_false, true_and, and_true, reduceIte, nZ0, nZ1, eσ37_38.1, eσ37_38.2, fun a k => (jσ37 a k).1, fun a k => (jσ37 a k).2, pσ37]) <;> (first | omega | with_reducible assumption | (unfold rng; omega) | (unfold rng; (repeat' split) <;> omega) | grind)) (by (try simp only [rII, rIJ, rIP, rJJ, rJI, rJP, rPP, rPI, rPJ, g1, g2, g3, g4, g5, g6, g7, g8, Nat.reduceEqDiff, Nat.reduceAdd, false_and, and_false, true_and, and_true, reduceIte, nZ0, nZ1, eσ37_38.1, eσ37_38.2, fun a k => (jσ37 a k).1, fun a k => (jσ37 a k).2, pσ37]) <;> (first | omega | with_reducible assumption | (unfold rng; omega) | (unfold rng; (repeat' split) <;> omega) | grind)) (fun σ38 r39 rσ38 fc p13 => ?_) (fun σx E rx fx px => hX _ _ rx (Fr.tr fσ37 (Fr.mor (fx) (by decide) (by decide))) (by obtain ⟨e1, e2⟩ := px; subst e2; exact ⟨e1, pe9, _, _, re9, me9⟩))
                      have fσ38 : Fr ra jx rm [46, 47, 48, 49, 60, 61, 62, 63, 64, 65, 68, 69, 70, 71, 72, 73, 74, 75, 76, 77, 78, 82] [66, 67, 79, 80] σ σ38 := Fr.tr fσ37 (Fr.mor (fc) (by decide) (by decide))
                      have re9 := p13.1
                      have me9 := MtI.more me9 fc (by decide) h1 p13.2.2.2.1 p13.2.2.2.2.1 p13.2.2.2.2.2 (fun a ha => (pd.1.2.2.1 a (by omega)).1) (fun q => absurd (show gI σ (jx ja 2) v2.toNat = 8 by simpa only [rII, rIJ, rIP, rJJ, rJI, rJP, rPP, rPI, rPJ, g1, g2, g3, g4, g5, g6, g7, g8, Nat.reduceEqDiff, Nat.reduceAdd, false_and, and_false, true_and, and_true, reduceIte, nZ0, nZ1, eσ37_38.1, eσ37_38.2, fun a k => (jσ37 a k).1, fun a k => (jσ37 a k).2, pσ37, hto] using q) hk)
                      have pe9 := ThE.fr pe9 fc (by decide) (by decide)
                      have czr := cz_rec (σ := σ37) (T := v1) (U := v1) h1 p13.2.1 p13.2.2.1.1 (by omega) p13.2.2.2.1 (fun a h0 hn => (p13.2.2.2.2.2 a h0 hn).1)
                      rw [czd] at czr
                      have cz9 := czr
                      have eσ38_38 := fσ38.1 38 (by decide)
                      have jσ38 := fσ38.2.2.1
                      have pσ38 := fσ38.2.2.2
                      try simp only [forall_eq, rII, rIJ, rIP, rJJ, rJI, rJP, rPP, rPI, rPJ, g1, g2, g3, g4, g5, g6, g7, g8, Nat.reduceEqDiff, Nat.reduceAdd, false_and, and_false, true_and, and_true, reduceIte, nZ0, nZ1, eσ38_38.1, eσ38_38.2, fun a k => (jσ38 a k).1, fun a k => (jσ38 a k).2, pσ38]
                      unfold w_X16_growUnique_237
                      try simp only [forall_eq, rII, rIJ, rIP, rJJ, rJI, rJP, rPP, rPI, rPJ, g1, g2, g3, g4, g5, g6, g7, g8, Nat.reduceEqDiff, Nat.reduceAdd, false_and, and_false, true_and, and_true, reduceIte, nZ0, nZ1, eσ38_38.1, eσ38_38.2, fun a k => (jσ38 a k).1, fun a k => (jσ38 a k).2, pσ38]
                      refine s_X16_emit (b4 := (ra 82)) (n4 := 16) g rσ38 (by first | exact hj | (rw [fσ38.2.2.2]; exact hj)) hja rfl (Or.inl ⟨82, rfl, by decide⟩) (by assumption) (by (try simp only [rII, rIJ, rIP, rJJ, rJI, rJP, rPP, rPI, rPJ, g1, g2, g3, g4, g5, g6, g7, g8, Nat.reduceEqDiff, Nat.reduceAdd, false_and, and_false, true_and, and_true, reduceIte, nZ0, nZ1, eσ38_38.1, eσ38_38.2, fun a k => (jσ38 a k).1, fun a k => (jσ38 a k).2, pσ38]) <;> (first | omega | with_reducible assumption | (unfold rng; omega) | (unfold rng; (repeat' split) <;> omega) | grind)) (by exact rτ29.2.2.2 71 _) (by (try simp only [rII, rIJ, rIP, rJJ, rJI, rJP, rPP, rPI, rPJ, g1, g2, g3, g4, g5, g6, g7, g8, Nat.reduceEqDiff, Nat.reduceAdd, false_and, and_false, true_and, and_true, reduceIte, nZ0, nZ1, eσ38_38.1, eσ38_38.2, fun a k => (jσ38 a k).1, fun a k => (jσ38 a k).2, pσ38]) <;> (first | omega | with_reducible assumption | (unfold rng; omega) | (unfold rng; (repeat' split) <;> omega) | grind)) (by (try simp only [rII, rIJ, rIP, rJJ, rJI, rJP, rPP, rPI, rPJ, g1, g2, g3, g4, g5, g6, g7, g8, Nat.reduceEqDiff, Nat.reduceAdd, false_and, and_false, true_and, and_true, reduceIte, nZ0, nZ1, eσ38_38.1, eσ38_38.2, fun a k => (jσ38 a k).1, fun a k => (jσ38 a k).2, pσ38]) <;> (first | omega | with_reducible assumption | (unfold rng; omega) | (unfold rng; (repeat' split) <;> omega) | grind)) (by (try simp only [rII, rIJ, rIP, rJJ, rJI, rJP, rPP, rPI, rPJ, g1, g2, g3, g4, g5, g6, g7, g8, Nat.reduceEqDiff, Nat.reduceAdd, false_and, and_false, true_and, and_true, reduceIte, nZ0, nZ1, eσ38_38.1, eσ38_38.2, fun a k => (jσ38 a k).1, fun a k => (jσ38 a k).2, pσ38]) <;> (first | omega | with_reducible assumption | (unfold rng; omega) | (unfold rng; (repeat' split) <;> omega) | grind)) (by (try simp only [rII, rIJ, rIP, rJJ, rJI, rJP, rPP, rPI, rPJ, g1, g2, g3, g4, g5, g6, g7, g8, Nat.reduceEqDiff, Nat.reduceAdd, false_and, and_false, true_and, and_true, reduceIte, nZ0, nZ1, eσ38_38.1, eσ38_38.2, fun a k => (jσ38 a k).1, fun a k => (jσ38 a k).2, pσ38]) <;> first | exact hp | (rw [(fσ38.2.1 33 (by decide)).1]; exact hp)) (fun σ40 _ rσ40 fc p14 => ?_) (fun σx E rx fx px => hX _ _ rx (Fr.tr fσ38 (Fr.mor (fx) (by decide) (by decide))) ⟨px.1, px.2, _, _, RecI.fr (by assumption) fx (by decide) (by decide), MtI.fr (by assumption) fx (by decide)⟩)
                      have fσ40 : Fr ra jx rm [46, 47, 48, 49, 60, 61, 62, 63, 64, 65, 68, 69, 70, 71, 72, 73, 74, 75, 76, 77, 78, 82] [66, 67, 79, 80] σ σ40 := Fr.tr fσ38 (Fr.mor (fc) (by decide) (by decide))
                      have pe9 := p14
                      have re9 := RecI.fr (by assumption) fc (by decide) (by decide)
                      have me9 := MtI.fr (by assumption) fc (by decide)
                      have cz9 := Eq.trans (cz_fr (fc.1 68 (by decide)).1) cz9
                      have eσ40_38 := fσ40.1 38 (by decide)
                      have jσ40 := fσ40.2.2.1
                      have pσ40 := fσ40.2.2.2
                      try simp only [forall_eq, rII, rIJ, rIP, rJJ, rJI, rJP, rPP, rPI, rPJ, g1, g2, g3, g4, g5, g6, g7, g8, Nat.reduceEqDiff, Nat.reduceAdd, false_and, and_false, true_and, and_true, reduceIte, nZ0, nZ1, eσ40_38.1, eσ40_38.2, fun a k => (jσ40 a k).1, fun a k => (jσ40 a k).2, pσ40]
                      unfold w_X16_growUnique_251
                      try simp only [forall_eq, rII, rIJ, rIP, rJJ, rJI, rJP, rPP, rPI, rPJ, g1, g2, g3, g4, g5, g6, g7, g8, Nat.reduceEqDiff, Nat.reduceAdd, false_and, and_false, true_and, and_true, reduceIte, nZ0, nZ1, eσ40_38.1, eσ40_38.2, fun a k => (jσ40 a k).1, fun a k => (jσ40 a k).2, pσ40]
                      refine s_X16_leastWaiting g rσ40 (by assumption) (by (try simp only [rII, rIJ, rIP, rJJ, rJI, rJP, rPP, rPI, rPJ, g1, g2, g3, g4, g5, g6, g7, g8, Nat.reduceEqDiff, Nat.reduceAdd, false_and, and_false, true_and, and_true, reduceIte, nZ0, nZ1, eσ40_38.1, eσ40_38.2, fun a k => (jσ40 a k).1, fun a k => (jσ40 a k).2, pσ40]) <;> (first | omega | with_reducible assumption | (unfold rng; omega) | (unfold rng; (repeat' split) <;> omega) | grind)) (by (try simp only [rII, rIJ, rIP, rJJ, rJI, rJP, rPP, rPI, rPJ, g1, g2, g3, g4, g5, g6, g7, g8, Nat.reduceEqDiff, Nat.reduceAdd, false_and, and_false, true_and, and_true, reduceIte, nZ0, nZ1, eσ40_38.1, eσ40_38.2, fun a k => (jσ40 a k).1, fun a k => (jσ40 a k).2, pσ40]) <;> (first | omega | with_reducible assumption | (unfold rng; omega) | (unfold rng; (repeat' split) <;> omega) | grind)) (fun r42 p15 => ?_)
                      try simp only [forall_eq, rII, rIJ, rIP, rJJ, rJI, rJP, rPP, rPI, rPJ, g1, g2, g3, g4, g5, g6, g7, g8, Nat.reduceEqDiff, Nat.reduceAdd, false_and, and_false, true_and, and_true, reduceIte, nZ0, nZ1, eσ40_38.1, eσ40_38.2, fun a k => (jσ40 a k).1, fun a k => (jσ40 a k).2, pσ40]
                      have pl9 := p15
                      refine ih29 _ _ ?_ ?_ ?_ ?_
                      · exact rσ40
                      · exact fσ40
                      · exact ⟨_, _, ⟨⟨⟨re9, me9⟩, pe9⟩, pl9⟩, by omega⟩
                      · omega
                    · rename_i hc174
                      skip
                      unfold w_X16_growUnique_177
                      try simp only [forall_eq, rII, rIJ, rIP, rJJ, rJI, rJP, rPP, rPI, rPJ, g1, g2, g3, g4, g5, g6, g7, g8, Nat.reduceEqDiff, Nat.reduceAdd, false_and, and_false, true_and, and_true, reduceIte, nZ0, nZ1, eσ37_38.1, eσ37_38.2, fun a k => (jσ37 a k).1, fun a k => (jσ37 a k).2, pσ37]
                      refine ⟨by (first | omega | with_reducible assumption | (unfold rng; omega) | (unfold rng; (repeat' split) <;> omega) | grind), ?_⟩
                      refine ⟨ja, by exact hj, hja, ?_⟩
                      refine ⟨by (first | omega | with_reducible assumption | (unfold rng; omega) | (unfold rng; (repeat' split) <;> omega) | grind), ?_⟩
                      split
                      · rename_i hc197
                        skip
                        unfold w_X16_growUnique_251
                        try simp only [forall_eq, rII, rIJ, rIP, rJJ, rJI, rJP, rPP, rPI, rPJ, g1, g2, g3, g4, g5, g6, g7, g8, Nat.reduceEqDiff, Nat.reduceAdd, false_and, and_false, true_and, and_true, reduceIte, nZ0, nZ1, eσ37_38.1, eσ37_38.2, fun a k => (jσ37 a k).1, fun a k => (jσ37 a k).2, pσ37]
                        refine s_X16_leastWaiting g rσ37 (by assumption) (by (try simp only [rII, rIJ, rIP, rJJ, rJI, rJP, rPP, rPI, rPJ, g1, g2, g3, g4, g5, g6, g7, g8, Nat.reduceEqDiff, Nat.reduceAdd, false_and, and_false, true_and, and_true, reduceIte, nZ0, nZ1, eσ37_38.1, eσ37_38.2, fun a k => (jσ37 a k).1, fun a k => (jσ37 a k).2, pσ37]) <;> (first | omega | with_reducible assumption | (unfold rng; omega) | (unfold rng; (repeat' split) <;> omega) | grind)) (by (try simp only [rII, rIJ, rIP, rJJ, rJI, rJP, rPP, rPI, rPJ, g1, g2, g3, g4, g5, g6, g7, g8, Nat.reduceEqDiff, Nat.reduceAdd, false_and, and_false, true_and, and_true, reduceIte, nZ0, nZ1, eσ37_38.1, eσ37_38.2, fun a k => (jσ37 a k).1, fun a k => (jσ37 a k).2, pσ37]) <;> (first | omega | with_reducible assumption | (unfold rng; omega) | (unfold rng; (repeat' split) <;> omega) | grind)) (fun r45 p16 => ?_)
                        try simp only [forall_eq, rII, rIJ, rIP, rJJ, rJI, rJP, rPP, rPI, rPJ, g1, g2, g3, g4, g5, g6, g7, g8, Nat.reduceEqDiff, Nat.reduceAdd, false_and, and_false, true_and, and_true, reduceIte, nZ0, nZ1, eσ37_38.1, eσ37_38.2, fun a k => (jσ37 a k).1, fun a k => (jσ37 a k).2, pσ37]
                        have pl9 := p16
                        refine ih29 _ _ ?_ ?_ ?_ ?_
                        · exact rσ37
                        · exact fσ37
                        · exact ⟨_, _, ⟨⟨⟨re9, me9⟩, pe9⟩, pl9⟩, by omega⟩
                        · omega
                      · rename_i hc197
                        skip
                        unfold w_X16_growUnique_200
                        try simp only [forall_eq, rII, rIJ, rIP, rJJ, rJI, rJP, rPP, rPI, rPJ, g1, g2, g3, g4, g5, g6, g7, g8, Nat.reduceEqDiff, Nat.reduceAdd, false_and, and_false, true_and, and_true, reduceIte, nZ0, nZ1, eσ37_38.1, eσ37_38.2, fun a k => (jσ37 a k).1, fun a k => (jσ37 a k).2, pσ37]
                        rw [if_pos (show (v7 ≠ (-1)) by omega)]
                        unfold w_X16_growUnique_228
                        try simp only [forall_eq, rII, rIJ, rIP, rJJ, rJI, rJP, rPP, rPI, rPJ, g1, g2, g3, g4, g5, g6, g7, g8, Nat.reduceEqDiff, Nat.reduceAdd, false_and, and_false, true_and, and_true, reduceIte, nZ0, nZ1, eσ37_38.1, eσ37_38.2, fun a k => (jσ37 a k).1, fun a k => (jσ37 a k).2, pσ37]
                        have me9 := MtI.fr (K := [71]) (S := []) (by assumption) (Fr.aJ (σ' := σ37) (k := 71) (i := v7.toNat) (x := gJ τ29 (ra 71) v6.toNat) g Fr.rf (by decide)) (by decide)
                        refine ⟨by (first | omega | with_reducible assumption | (unfold rng; omega) | (unfold rng; (repeat' split) <;> omega) | grind), ?_⟩
                        unfold w_X16_growUnique_237
                        try simp only [forall_eq, rII, rIJ, rIP, rJJ, rJI, rJP, rPP, rPI, rPJ, g1, g2, g3, g4, g5, g6, g7, g8, Nat.reduceEqDiff, Nat.reduceAdd, false_and, and_false, true_and, and_true, reduceIte, nZ0, nZ1, eσ37_38.1, eσ37_38.2, fun a k => (jσ37 a k).1, fun a k => (jσ37 a k).2, pσ37]
                        refine s_X16_emit (b4 := (ra 82)) (n4 := 16) g (by refine Rg.aJ g ?_ (by simp only [rlT]; first | with_reducible assumption | omega | exact Int64.toInt_le _ | (rw [Int64.toInt_ofInt_of_le (by omega) (by omega)]; omega) | grind); exact rσ37) (by first | exact hj | (rw [fσ37.2.2.2]; exact hj)) hja rfl (Or.inl ⟨82, rfl, by decide⟩) (by assumption) (by (try simp only [rII, rIJ, rIP, rJJ, rJI, rJP, rPP, rPI, rPJ, g1, g2, g3, g4, g5, g6, g7, g8, Nat.reduceEqDiff, Nat.reduceAdd, false_and, and_false, true_and, and_true, reduceIte, nZ0, nZ1, eσ37_38.1, eσ37_38.2, fun a k => (jσ37 a k).1, fun a k => (jσ37 a k).2, pσ37]) <;> (first | omega | with_reducible assumption | (unfold rng; omega) | (unfold rng; (repeat' split) <;> omega) | grind)) (by exact rτ29.2.2.2 71 _) (by (try simp only [rII, rIJ, rIP, rJJ, rJI, rJP, rPP, rPI, rPJ, g1, g2, g3, g4, g5, g6, g7, g8, Nat.reduceEqDiff, Nat.reduceAdd, false_and, and_false, true_and, and_true, reduceIte, nZ0, nZ1, eσ37_38.1, eσ37_38.2, fun a k => (jσ37 a k).1, fun a k => (jσ37 a k).2, pσ37]) <;> (first | omega | with_reducible assumption | (unfold rng; omega) | (unfold rng; (repeat' split) <;> omega) | grind)) (by (try simp only [rII, rIJ, rIP, rJJ, rJI, rJP, rPP, rPI, rPJ, g1, g2, g3, g4, g5, g6, g7, g8, Nat.reduceEqDiff, Nat.reduceAdd, false_and, and_false, true_and, and_true, reduceIte, nZ0, nZ1, eσ37_38.1, eσ37_38.2, fun a k => (jσ37 a k).1, fun a k => (jσ37 a k).2, pσ37]) <;> (first | omega | with_reducible assumption | (unfold rng; omega) | (unfold rng; (repeat' split) <;> omega) | grind)) (by (try simp only [rII, rIJ, rIP, rJJ, rJI, rJP, rPP, rPI, rPJ, g1, g2, g3, g4, g5, g6, g7, g8, Nat.reduceEqDiff, Nat.reduceAdd, false_and, and_false, true_and, and_true, reduceIte, nZ0, nZ1, eσ37_38.1, eσ37_38.2, fun a k => (jσ37 a k).1, fun a k => (jσ37 a k).2, pσ37]) <;> (first | omega | with_reducible assumption | (unfold rng; omega) | (unfold rng; (repeat' split) <;> omega) | grind)) (by (try simp only [rII, rIJ, rIP, rJJ, rJI, rJP, rPP, rPI, rPJ, g1, g2, g3, g4, g5, g6, g7, g8, Nat.reduceEqDiff, Nat.reduceAdd, false_and, and_false, true_and, and_true, reduceIte, nZ0, nZ1, eσ37_38.1, eσ37_38.2, fun a k => (jσ37 a k).1, fun a k => (jσ37 a k).2, pσ37]) <;> first | exact hp | (rw [(fσ37.2.1 33 (by decide)).1]; exact hp)) (fun σ47 _ rσ47 fc p17 => ?_) (fun σx E rx fx px => hX _ _ rx (Fr.tr (by refine Fr.aJ g ?_ (by decide); exact fσ37) (Fr.mor (fx) (by decide) (by decide))) ⟨px.1, px.2, _, _, RecI.fr (by assumption) fx (by decide) (by decide), MtI.fr (by assumption) fx (by decide)⟩)
                        have fσ47 : Fr ra jx rm [46, 47, 48, 49, 60, 61, 62, 63, 64, 65, 68, 69, 70, 71, 72, 73, 74, 75, 76, 77, 78, 82] [66, 67, 79, 80] σ σ47 := Fr.tr (by refine Fr.aJ g ?_ (by decide); exact fσ37) (Fr.mor (fc) (by decide) (by decide))
                        have pe9 := p17
                        have re9 := RecI.fr (by assumption) fc (by decide) (by decide)
                        have me9 := MtI.fr (by assumption) fc (by decide)
                        have cz9 := Eq.trans (cz_fr (fc.1 68 (by decide)).1) cz9
                        have eσ47_38 := fσ47.1 38 (by decide)
                        have jσ47 := fσ47.2.2.1
                        have pσ47 := fσ47.2.2.2
                        try simp only [forall_eq, rII, rIJ, rIP, rJJ, rJI, rJP, rPP, rPI, rPJ, g1, g2, g3, g4, g5, g6, g7, g8, Nat.reduceEqDiff, Nat.reduceAdd, false_and, and_false, true_and, and_true, reduceIte, nZ0, nZ1, eσ47_38.1, eσ47_38.2, fun a k => (jσ47 a k).1, fun a k => (jσ47 a k).2, pσ47]
                        unfold w_X16_growUnique_251
                        try simp only [forall_eq, rII, rIJ, rIP, rJJ, rJI, rJP, rPP, rPI, rPJ, g1, g2, g3, g4, g5, g6, g7, g8, Nat.reduceEqDiff, Nat.reduceAdd, false_and, and_false, true_and, and_true, reduceIte, nZ0, nZ1, eσ47_38.1, eσ47_38.2, fun a k => (jσ47 a k).1, fun a k => (jσ47 a k).2, pσ47]
                        refine s_X16_leastWaiting g rσ47 (by assumption) (by (try simp only [rII, rIJ, rIP, rJJ, rJI, rJP, rPP, rPI, rPJ, g1, g2, g3, g4, g5, g6, g7, g8, Nat.reduceEqDiff, Nat.reduceAdd, false_and, and_false, true_and, and_true, reduceIte, nZ0, nZ1, eσ47_38.1, eσ47_38.2, fun a k => (jσ47 a k).1, fun a k => (jσ47 a k).2, pσ47]) <;> (first | omega | with_reducible assumption | (unfold rng; omega) | (unfold rng; (repeat' split) <;> omega) | grind)) (by (try simp only [rII, rIJ, rIP, rJJ, rJI, rJP, rPP, rPI, rPJ, g1, g2, g3, g4, g5, g6, g7, g8, Nat.reduceEqDiff, Nat.reduceAdd, false_and, and_false, true_and, and_true, reduceIte, nZ0, nZ1, eσ47_38.1, eσ47_38.2, fun a k => (jσ47 a k).1, fun a k => (jσ47 a k).2, pσ47]) <;> (first | omega | with_reducible assumption | (unfold rng; omega) | (unfold rng; (repeat' split) <;> omega) | grind)) (fun r49 p18 => ?_)
                        try simp only [forall_eq, rII, rIJ, rIP, rJJ, rJI, rJP, rPP, rPI, rPJ, g1, g2, g3, g4, g5, g6, g7, g8, Nat.reduceEqDiff, Nat.reduceAdd, false_and, and_false, true_and, and_true, reduceIte, nZ0, nZ1, eσ47_38.1, eσ47_38.2, fun a k => (jσ47 a k).1, fun a k => (jσ47 a k).2, pσ47]
                        have pl9 := p18
                        refine ih29 _ _ ?_ ?_ ?_ ?_
                        · exact rσ47
                        · exact fσ47
                        · exact ⟨_, _, ⟨⟨⟨re9, me9⟩, pe9⟩, pl9⟩, by omega⟩
                        · omega
                  · rename_i hc136
                    skip
                    unfold w_X16_growUnique_139
                    try simp only [forall_eq, rII, rIJ, rIP, rJJ, rJI, rJP, rPP, rPI, rPJ, g1, g2, g3, g4, g5, g6, g7, g8, Nat.reduceEqDiff, Nat.reduceAdd, false_and, and_false, true_and, and_true, reduceIte, nZ0, nZ1, eτ132_38.1, eτ132_38.2, fun a k => (jτ132 a k).1, fun a k => (jτ132 a k).2, pτ132]
                    refine ⟨by (first | omega | with_reducible assumption | (unfold rng; omega) | (unfold rng; (repeat' split) <;> omega) | grind), ?_⟩
                    refine ⟨by (first | omega | with_reducible assumption | (unfold rng; omega) | (unfold rng; (repeat' split) <;> omega) | grind), ?_⟩
                    refine ⟨by (first | omega | with_reducible assumption | (unfold rng; omega) | (unfold rng; (repeat' split) <;> omega) | grind), ?_⟩
                    refine ⟨by (first | omega | with_reducible assumption | (unfold rng; omega) | (unfold rng; (repeat' split) <;> omega) | grind), ?_⟩
                    refine ⟨by (first | omega | with_reducible assumption | (unfold rng; omega) | (unfold rng; (repeat' split) <;> omega) | grind), ?_⟩
                    refine ih132 _ _ ?_ ?_ ?_ ?_
                    · refine Rg.aJ g ?_ (by simp only [rlT]; first | with_reducible assumption | omega | exact Int64.toInt_le _ | (rw [Int64.toInt_ofInt_of_le (by omega) (by omega)]; omega) | grind); exact rτ132
                    · refine Fr.aJ g ?_ (by decide); exact fτ132
                    · refine ⟨?_, ?_, ?_, ?_, ?_, ?_⟩ <;> (first | with_reducible assumption | omega | exact RecI.fr (jx := jx) (K := [82]) (S := []) (by assumption) (by repeat (first | exact Fr.rf | assumption | refine Fr.aJ g ?_ (by decide) | refine Fr.aI g ?_ (by decide) | refine Fr.sI g ?_ (by decide) | refine Fr.sJ g ?_ (by decide))) (by decide) (by decide) | exact MtI.fr (rm := rm) (K := [82]) (S := []) (by assumption) (by repeat (first | exact Fr.rf | assumption | refine Fr.aJ g ?_ (by decide) | refine Fr.aI g ?_ (by decide) | refine Fr.sI g ?_ (by decide) | refine Fr.sJ g ?_ (by decide))) (by decide) | exact ThE.fr (jx := jx) (K := [82]) (S := []) (by assumption) (by repeat (first | exact Fr.rf | assumption | refine Fr.aJ g ?_ (by decide) | refine Fr.aI g ?_ (by decide) | refine Fr.sI g ?_ (by decide) | refine Fr.sJ g ?_ (by decide))) (by decide) (by decide) | exact HeE.fr (jx := jx) (K := [82]) (S := []) (by assumption) (by repeat (first | exact Fr.rf | assumption | refine Fr.aJ g ?_ (by decide) | refine Fr.aI g ?_ (by decide) | refine Fr.sI g ?_ (by decide) | refine Fr.sJ g ?_ (by decide))) (by decide) (by decide) | ((try simp only [rII, rIJ, rIP, rJJ, rJI, rJP, rPP, rPI, rPJ, g1, g2, g3, g4, g5, g6, g7, g8, Nat.reduceEqDiff, Nat.reduceAdd, false_and, and_false, true_and, and_true, reduceIte, nZ0, nZ1, eτ132_38.1, eτ132_38.2, fun a k => (jτ132 a k).1, fun a k => (jτ132 a k).2, pτ132]) <;> first | omega | assumption | grind))
                    · (try simp only [rII, rIJ, rIP, rJJ, rJI, rJP, rPP, rPI, rPJ, g1, g2, g3, g4, g5, g6, g7, g8, Nat.reduceEqDiff, Nat.reduceAdd, false_and, and_false, true_and, and_true, reduceIte, nZ0, nZ1, eτ132_38.1, eτ132_38.2, fun a k => (jτ132 a k).1, fun a k => (jτ132 a k).2, pτ132]) <;> (first | omega | with_reducible assumption | (unfold rng; omega) | (unfold rng; (repeat' split) <;> omega) | grind)
              refine ⟨_, L132 _ _ _ ?_ ?_ ?_ (Nat.lt_succ_self _)⟩
              · exact rτ29
              · exact fτ29
              · refine ⟨?_, ?_, ?_, ?_, ?_, ?_⟩ <;> (first | with_reducible assumption | omega | exact RecI.fr (jx := jx) (K := [82]) (S := []) (by assumption) (by repeat (first | exact Fr.rf | assumption | refine Fr.aJ g ?_ (by decide) | refine Fr.aI g ?_ (by decide) | refine Fr.sI g ?_ (by decide) | refine Fr.sJ g ?_ (by decide))) (by decide) (by decide) | exact MtI.fr (rm := rm) (K := [82]) (S := []) (by assumption) (by repeat (first | exact Fr.rf | assumption | refine Fr.aJ g ?_ (by decide) | refine Fr.aI g ?_ (by decide) | refine Fr.sI g ?_ (by decide) | refine Fr.sJ g ?_ (by decide))) (by decide) | exact ThE.fr (jx := jx) (K := [82]) (S := []) (by assumption) (by repeat (first | exact Fr.rf | assumption | refine Fr.aJ g ?_ (by decide) | refine Fr.aI g ?_ (by decide) | refine Fr.sI g ?_ (by decide) | refine Fr.sJ g ?_ (by decide))) (by decide) (by decide) | exact HeE.fr (jx := jx) (K := [82]) (S := []) (by assumption) (by repeat (first | exact Fr.rf | assumption | refine Fr.aJ g ?_ (by decide) | refine Fr.aI g ?_ (by decide) | refine Fr.sI g ?_ (by decide) | refine Fr.sJ g ?_ (by decide))) (by decide) (by decide) | ((try simp only [rII, rIJ, rIP, rJJ, rJI, rJP, rPP, rPI, rPJ, g1, g2, g3, g4, g5, g6, g7, g8, Nat.reduceEqDiff, Nat.reduceAdd, false_and, and_false, true_and, and_true, reduceIte, nZ0, nZ1, eτ29_38.1, eτ29_38.2, fun a k => (jτ29 a k).1, fun a k => (jτ29 a k).2, pτ29]) <;> first | omega | assumption | grind))
            · rename_i hc49
              skip
              unfold w_X16_growUnique_52
              try simp only [forall_eq, rII, rIJ, rIP, rJJ, rJI, rJP, rPP, rPI, rPJ, g1, g2, g3, g4, g5, g6, g7, g8, Nat.reduceEqDiff, Nat.reduceAdd, false_and, and_false, true_and, and_true, reduceIte, nZ0, nZ1, eτ29_38.1, eτ29_38.2, fun a k => (jτ29 a k).1, fun a k => (jτ29 a k).2, pτ29]
              have nv8 := hrA.nd (hi46.1.resolve_left (by assumption)) h1
              refine ⟨by (first | omega | with_reducible assumption | (unfold rng; omega) | (unfold rng; (repeat' split) <;> omega) | grind), ?_⟩
              have q19 := rτ29.1 68 (v8.toNat); simp only [rgT] at q19
              split
              · rename_i hc60
                skip
                unfold w_X16_growUnique_86
                try simp only [forall_eq, rII, rIJ, rIP, rJJ, rJI, rJP, rPP, rPI, rPJ, g1, g2, g3, g4, g5, g6, g7, g8, Nat.reduceEqDiff, Nat.reduceAdd, false_and, and_false, true_and, and_true, reduceIte, nZ0, nZ1, eτ29_38.1, eτ29_38.2, fun a k => (jτ29 a k).1, fun a k => (jτ29 a k).2, pτ29]
                unfold w_X16_growUnique_88
                try simp only [forall_eq, rII, rIJ, rIP, rJJ, rJI, rJP, rPP, rPI, rPJ, g1, g2, g3, g4, g5, g6, g7, g8, Nat.reduceEqDiff, Nat.reduceAdd, false_and, and_false, true_and, and_true, reduceIte, nZ0, nZ1, eτ29_38.1, eτ29_38.2, fun a k => (jτ29 a k).1, fun a k => (jτ29 a k).2, pτ29]
                refine ⟨by (first | omega | with_reducible assumption | (unfold rng; omega) | (unfold rng; (repeat' split) <;> omega) | grind), ?_⟩
                have q20 := rτ29.1 75 (v8.toNat); simp only [rgT] at q20
                refine ih46 _ _ ?_ ?_
                · (try simp only [rII, rIJ, rIP, rJJ, rJI, rJP, rPP, rPI, rPJ, g1, g2, g3, g4, g5, g6, g7, g8, Nat.reduceEqDiff, Nat.reduceAdd, false_and, and_false, true_and, and_true, reduceIte, nZ0, nZ1, eτ29_38.1, eτ29_38.2, fun a k => (jτ29 a k).1, fun a k => (jτ29 a k).2, pτ29]) <;> (first | omega | with_reducible assumption | (unfold rng; omega) | (unfold rng; (repeat' split) <;> omega) | grind)
                · (try simp only [rII, rIJ, rIP, rJJ, rJI, rJP, rPP, rPI, rPJ, g1, g2, g3, g4, g5, g6, g7, g8, Nat.reduceEqDiff, Nat.reduceAdd, false_and, and_false, true_and, and_true, reduceIte, nZ0, nZ1, eτ29_38.1, eτ29_38.2, fun a k => (jτ29 a k).1, fun a k => (jτ29 a k).2, pτ29]) <;> (first | omega | with_reducible assumption | (unfold rng; omega) | (unfold rng; (repeat' split) <;> omega) | grind)
              · rename_i hc60
                skip
                unfold w_X16_growUnique_63
                try simp only [forall_eq, rII, rIJ, rIP, rJJ, rJI, rJP, rPP, rPI, rPJ, g1, g2, g3, g4, g5, g6, g7, g8, Nat.reduceEqDiff, Nat.reduceAdd, false_and, and_false, true_and, and_true, reduceIte, nZ0, nZ1, eτ29_38.1, eτ29_38.2, fun a k => (jτ29 a k).1, fun a k => (jτ29 a k).2, pτ29]
                refine ⟨by (first | omega | with_reducible assumption | (unfold rng; omega) | (unfold rng; (repeat' split) <;> omega) | grind), ?_⟩
                refine ⟨by (first | omega | with_reducible assumption | (unfold rng; omega) | (unfold rng; (repeat' split) <;> omega) | grind), ?_⟩
                split
                · rename_i hc78
                  skip
                  unfold w_X16_growUnique_86
                  try simp only [forall_eq, rII, rIJ, rIP, rJJ, rJI, rJP, rPP, rPI, rPJ, g1, g2, g3, g4, g5, g6, g7, g8, Nat.reduceEqDiff, Nat.reduceAdd, false_and, and_false, true_and, and_true, reduceIte, nZ0, nZ1, eτ29_38.1, eτ29_38.2, fun a k => (jτ29 a k).1, fun a k => (jτ29 a k).2, pτ29]
                  unfold w_X16_growUnique_88
                  try simp only [forall_eq, rII, rIJ, rIP, rJJ, rJI, rJP, rPP, rPI, rPJ, g1, g2, g3, g4, g5, g6, g7, g8, Nat.reduceEqDiff, Nat.reduceAdd, false_and, and_false, true_and, and_true, reduceIte, nZ0, nZ1, eτ29_38.1, eτ29_38.2, fun a k => (jτ29 a k).1, fun a k => (jτ29 a k).2, pτ29]
                  refine ⟨by (first | omega | with_reducible assumption | (unfold rng; omega) | (unfold rng; (repeat' split) <;> omega) | grind), ?_⟩
                  have q21 := rτ29.1 75 (v8.toNat); simp only [rgT] at q21
                  refine ih46 _ _ ?_ ?_
                  · (try simp only [rII, rIJ, rIP, rJJ, rJI, rJP, rPP, rPI, rPJ, g1, g2, g3, g4, g5, g6, g7, g8, Nat.reduceEqDiff, Nat.reduceAdd, false_and, and_false, true_and, and_true, reduceIte, nZ0, nZ1, eτ29_38.1, eτ29_38.2, fun a k => (jτ29 a k).1, fun a k => (jτ29 a k).2, pτ29]) <;> (first | omega | with_reducible assumption | (unfold rng; omega) | (unfold rng; (repeat' split) <;> omega) | grind)
                  · (try simp only [rII, rIJ, rIP, rJJ, rJI, rJP, rPP, rPI, rPJ, g1, g2, g3, g4, g5, g6, g7, g8, Nat.reduceEqDiff, Nat.reduceAdd, false_and, and_false, true_and, and_true, reduceIte, nZ0, nZ1, eτ29_38.1, eτ29_38.2, fun a k => (jτ29 a k).1, fun a k => (jτ29 a k).2, pτ29]) <;> (first | omega | with_reducible assumption | (unfold rng; omega) | (unfold rng; (repeat' split) <;> omega) | grind)
                · rename_i hc78
                  skip
                  unfold w_X16_growUnique_81
                  try simp only [forall_eq, rII, rIJ, rIP, rJJ, rJI, rJP, rPP, rPI, rPJ, g1, g2, g3, g4, g5, g6, g7, g8, Nat.reduceEqDiff, Nat.reduceAdd, false_and, and_false, true_and, and_true, reduceIte, nZ0, nZ1, eτ29_38.1, eτ29_38.2, fun a k => (jτ29 a k).1, fun a k => (jτ29 a k).2, pτ29]
                  unfold w_X16_growUnique_88
                  try simp only [forall_eq, rII, rIJ, rIP, rJJ, rJI, rJP, rPP, rPI, rPJ, g1, g2, g3, g4, g5, g6, g7, g8, Nat.reduceEqDiff, Nat.reduceAdd, false_and, and_false, true_and, and_true, reduceIte, nZ0, nZ1, eτ29_38.1, eτ29_38.2, fun a k => (jτ29 a k).1, fun a k => (jτ29 a k).2, pτ29]
                  refine ⟨by (first | omega | with_reducible assumption | (unfold rng; omega) | (unfold rng; (repeat' split) <;> omega) | grind), ?_⟩
                  have q22 := rτ29.1 75 (v8.toNat); simp only [rgT] at q22
                  refine ih46 _ _ ?_ ?_
                  · (try simp only [rII, rIJ, rIP, rJJ, rJI, rJP, rPP, rPI, rPJ, g1, g2, g3, g4, g5, g6, g7, g8, Nat.reduceEqDiff, Nat.reduceAdd, false_and, and_false, true_and, and_true, reduceIte, nZ0, nZ1, eτ29_38.1, eτ29_38.2, fun a k => (jτ29 a k).1, fun a k => (jτ29 a k).2, pτ29]) <;> (first | omega | with_reducible assumption | (unfold rng; omega) | (unfold rng; (repeat' split) <;> omega) | grind)
                  · (try simp only [rII, rIJ, rIP, rJJ, rJI, rJP, rPP, rPI, rPJ, g1, g2, g3, g4, g5, g6, g7, g8, Nat.reduceEqDiff, Nat.reduceAdd, false_and, and_false, true_and, and_true, reduceIte, nZ0, nZ1, eτ29_38.1, eτ29_38.2, fun a k => (jτ29 a k).1, fun a k => (jτ29 a k).2, pτ29]) <;> (first | omega | with_reducible assumption | (unfold rng; omega) | (unfold rng; (repeat' split) <;> omega) | grind)
        refine ⟨_, L46 _ _ _ ?_ (Nat.lt_succ_self _)⟩
        · (try simp only [rII, rIJ, rIP, rJJ, rJI, rJP, rPP, rPI, rPJ, g1, g2, g3, g4, g5, g6, g7, g8, Nat.reduceEqDiff, Nat.reduceAdd, false_and, and_false, true_and, and_true, reduceIte, nZ0, nZ1, eτ29_38.1, eτ29_38.2, fun a k => (jτ29 a k).1, fun a k => (jτ29 a k).2, pτ29]) <;> (first | omega | with_reducible assumption | (unfold rng; omega) | (unfold rng; (repeat' split) <;> omega) | grind)
  refine ⟨((cz ra σ own0 v1).toNat) + 1, L29 _ _ _ ?_ ?_ ?_ (by omega)⟩
  · exact rσ
  · exact fσ
  · exact ⟨own0, ps0, ⟨⟨⟨hr0, hm0⟩, hth⟩, pl9⟩, Nat.lt_succ_self _⟩

set_option maxHeartbeats 2000000 in
theorem s_X16_two {ra : Nat → Nat} {jx : Nat → Nat → Nat} {rm : Nat} (g : Geo ra jx rm) {σ : Sg} {v1 : Int} {v2 : Int64} {v4 : Int64} (rσ : Rg ra jx rm σ) (b1 : -2147483648 ≤ v1 ∧ v1 ≤ 2147483647) {Q : Sg → Int64 → Prop} {X : Sg → String → Prop} (hQ : ∀ (σ' : Sg) (r : Int64), Rg ra jx rm σ' → Fr ra jx rm [] [21] σ σ' → (True) → Q σ' r) : wp_X16_two ra jx rm v1 v2 v4 σ Q X := by
  obtain ⟨g1, g2, g3, g4, g5, g6, g7, g8⟩ := id g
  have fσ : Fr ra jx rm [] [21] σ σ := Fr.rf
  unfold wp_X16_two
  unfold w_X16_two_0
  try simp only [forall_eq, rII, rIJ, rIP, rJJ, rJI, rJP, rPP, rPI, rPJ, g1, g2, g3, g4, g5, g6, g7, g8, Nat.reduceEqDiff, Nat.reduceAdd, false_and, and_false, true_and, and_true, reduceIte, nZ0, nZ1]
  split
  · rename_i hc3
    skip
    unfold w_X16_two_12
    try simp only [forall_eq, rII, rIJ, rIP, rJJ, rJI, rJP, rPP, rPI, rPJ, g1, g2, g3, g4, g5, g6, g7, g8, Nat.reduceEqDiff, Nat.reduceAdd, false_and, and_false, true_and, and_true, reduceIte, nZ0, nZ1]
    split
    · rename_i hc16
      skip
      unfold w_X16_two_26
      try simp only [forall_eq, rII, rIJ, rIP, rJJ, rJI, rJP, rPP, rPI, rPJ, g1, g2, g3, g4, g5, g6, g7, g8, Nat.reduceEqDiff, Nat.reduceAdd, false_and, and_false, true_and, and_true, reduceIte, nZ0, nZ1]
      by_cases hc27_0 : v1 = 3
      · rw [if_pos hc27_0]
        unfold w_X16_two_68
        try simp only [forall_eq, rII, rIJ, rIP, rJJ, rJI, rJP, rPP, rPI, rPJ, g1, g2, g3, g4, g5, g6, g7, g8, Nat.reduceEqDiff, Nat.reduceAdd, false_and, and_false, true_and, and_true, reduceIte, nZ0, nZ1]
        unfold w_X16_two_145
        try simp only [forall_eq, rII, rIJ, rIP, rJJ, rJI, rJP, rPP, rPI, rPJ, g1, g2, g3, g4, g5, g6, g7, g8, Nat.reduceEqDiff, Nat.reduceAdd, false_and, and_false, true_and, and_true, reduceIte, nZ0, nZ1]
        refine hQ _ _ ?_ ?_ ?_
        · exact rσ
        · exact fσ
        · exact trivial
      · rw [if_neg hc27_0]
        by_cases hc27_1 : v1 = 4
        · rw [if_pos hc27_1]
          unfold w_X16_two_75
          try simp only [forall_eq, rII, rIJ, rIP, rJJ, rJI, rJP, rPP, rPI, rPJ, g1, g2, g3, g4, g5, g6, g7, g8, Nat.reduceEqDiff, Nat.reduceAdd, false_and, and_false, true_and, and_true, reduceIte, nZ0, nZ1]
          unfold w_X16_two_145
          try simp only [forall_eq, rII, rIJ, rIP, rJJ, rJI, rJP, rPP, rPI, rPJ, g1, g2, g3, g4, g5, g6, g7, g8, Nat.reduceEqDiff, Nat.reduceAdd, false_and, and_false, true_and, and_true, reduceIte, nZ0, nZ1]
          refine hQ _ _ ?_ ?_ ?_
          · exact rσ
          · exact fσ
          · exact trivial
        · rw [if_neg hc27_1]
          by_cases hc27_2 : v1 = 5
          · rw [if_pos hc27_2]
            unfold w_X16_two_82
            try simp only [forall_eq, rII, rIJ, rIP, rJJ, rJI, rJP, rPP, rPI, rPJ, g1, g2, g3, g4, g5, g6, g7, g8, Nat.reduceEqDiff, Nat.reduceAdd, false_and, and_false, true_and, and_true, reduceIte, nZ0, nZ1]
            unfold w_X16_two_145
            try simp only [forall_eq, rII, rIJ, rIP, rJJ, rJI, rJP, rPP, rPI, rPJ, g1, g2, g3, g4, g5, g6, g7, g8, Nat.reduceEqDiff, Nat.reduceAdd, false_and, and_false, true_and, and_true, reduceIte, nZ0, nZ1]
            refine hQ _ _ ?_ ?_ ?_
            · exact rσ
            · exact fσ
            · exact trivial
          · rw [if_neg hc27_2]
            by_cases hc27_3 : v1 = 6
            · rw [if_pos hc27_3]
              unfold w_X16_two_89
              try simp only [forall_eq, rII, rIJ, rIP, rJJ, rJI, rJP, rPP, rPI, rPJ, g1, g2, g3, g4, g5, g6, g7, g8, Nat.reduceEqDiff, Nat.reduceAdd, false_and, and_false, true_and, and_true, reduceIte, nZ0, nZ1]
              refine ⟨by (first | omega | with_reducible assumption | (unfold rng; omega) | (unfold rng; (repeat' split) <;> omega) | grind), ?_⟩
              unfold w_X16_two_145
              try simp only [forall_eq, rII, rIJ, rIP, rJJ, rJI, rJP, rPP, rPI, rPJ, g1, g2, g3, g4, g5, g6, g7, g8, Nat.reduceEqDiff, Nat.reduceAdd, false_and, and_false, true_and, and_true, reduceIte, nZ0, nZ1]
              refine hQ _ _ ?_ ?_ ?_
              · exact rσ
              · exact fσ
              · exact trivial
            · rw [if_neg hc27_3]
              by_cases hc27_4 : v1 = 7
              · rw [if_pos hc27_4]
                unfold w_X16_two_96
                try simp only [forall_eq, rII, rIJ, rIP, rJJ, rJI, rJP, rPP, rPI, rPJ, g1, g2, g3, g4, g5, g6, g7, g8, Nat.reduceEqDiff, Nat.reduceAdd, false_and, and_false, true_and, and_true, reduceIte, nZ0, nZ1]
                refine ⟨by (first | omega | with_reducible assumption | (unfold rng; omega) | (unfold rng; (repeat' split) <;> omega) | grind), ?_⟩
                unfold w_X16_two_145
                try simp only [forall_eq, rII, rIJ, rIP, rJJ, rJI, rJP, rPP, rPI, rPJ, g1, g2, g3, g4, g5, g6, g7, g8, Nat.reduceEqDiff, Nat.reduceAdd, false_and, and_false, true_and, and_true, reduceIte, nZ0, nZ1]
                refine hQ _ _ ?_ ?_ ?_
                · exact rσ
                · exact fσ
                · exact trivial
              · rw [if_neg hc27_4]
                by_cases hc27_5 : v1 = 8
                · rw [if_pos hc27_5]
                  unfold w_X16_two_103
                  try simp only [forall_eq, rII, rIJ, rIP, rJJ, rJI, rJP, rPP, rPI, rPJ, g1, g2, g3, g4, g5, g6, g7, g8, Nat.reduceEqDiff, Nat.reduceAdd, false_and, and_false, true_and, and_true, reduceIte, nZ0, nZ1]
                  split
                  · rename_i hc107
                    skip
                    unfold w_X16_two_114
                    try simp only [forall_eq, rII, rIJ, rIP, rJJ, rJI, rJP, rPP, rPI, rPJ, g1, g2, g3, g4, g5, g6, g7, g8, Nat.reduceEqDiff, Nat.reduceAdd, false_and, and_false, true_and, and_true, reduceIte, nZ0, nZ1]
                    unfold w_X16_two_145
                    try simp only [forall_eq, rII, rIJ, rIP, rJJ, rJI, rJP, rPP, rPI, rPJ, g1, g2, g3, g4, g5, g6, g7, g8, Nat.reduceEqDiff, Nat.reduceAdd, false_and, and_false, true_and, and_true, reduceIte, nZ0, nZ1]
                    refine hQ _ _ ?_ ?_ ?_
                    · exact rσ
                    · exact fσ
                    · exact trivial
                  · rename_i hc107
                    skip
                    unfold w_X16_two_110
                    try simp only [forall_eq, rII, rIJ, rIP, rJJ, rJI, rJP, rPP, rPI, rPJ, g1, g2, g3, g4, g5, g6, g7, g8, Nat.reduceEqDiff, Nat.reduceAdd, false_and, and_false, true_and, and_true, reduceIte, nZ0, nZ1]
                    unfold w_X16_two_145
                    try simp only [forall_eq, rII, rIJ, rIP, rJJ, rJI, rJP, rPP, rPI, rPJ, g1, g2, g3, g4, g5, g6, g7, g8, Nat.reduceEqDiff, Nat.reduceAdd, false_and, and_false, true_and, and_true, reduceIte, nZ0, nZ1]
                    refine hQ _ _ ?_ ?_ ?_
                    · exact rσ
                    · exact fσ
                    · exact trivial
                · rw [if_neg hc27_5]
                  by_cases hc27_6 : v1 = 9
                  · rw [if_pos hc27_6]
                    unfold w_X16_two_118
                    try simp only [forall_eq, rII, rIJ, rIP, rJJ, rJI, rJP, rPP, rPI, rPJ, g1, g2, g3, g4, g5, g6, g7, g8, Nat.reduceEqDiff, Nat.reduceAdd, false_and, and_false, true_and, and_true, reduceIte, nZ0, nZ1]
                    split
                    · rename_i hc122
                      skip
                      unfold w_X16_two_129
                      try simp only [forall_eq, rII, rIJ, rIP, rJJ, rJI, rJP, rPP, rPI, rPJ, g1, g2, g3, g4, g5, g6, g7, g8, Nat.reduceEqDiff, Nat.reduceAdd, false_and, and_false, true_and, and_true, reduceIte, nZ0, nZ1]
                      unfold w_X16_two_145
                      try simp only [forall_eq, rII, rIJ, rIP, rJJ, rJI, rJP, rPP, rPI, rPJ, g1, g2, g3, g4, g5, g6, g7, g8, Nat.reduceEqDiff, Nat.reduceAdd, false_and, and_false, true_and, and_true, reduceIte, nZ0, nZ1]
                      refine hQ _ _ ?_ ?_ ?_
                      · exact rσ
                      · exact fσ
                      · exact trivial
                    · rename_i hc122
                      skip
                      unfold w_X16_two_125
                      try simp only [forall_eq, rII, rIJ, rIP, rJJ, rJI, rJP, rPP, rPI, rPJ, g1, g2, g3, g4, g5, g6, g7, g8, Nat.reduceEqDiff, Nat.reduceAdd, false_and, and_false, true_and, and_true, reduceIte, nZ0, nZ1]
                      unfold w_X16_two_145
                      try simp only [forall_eq, rII, rIJ, rIP, rJJ, rJI, rJP, rPP, rPI, rPJ, g1, g2, g3, g4, g5, g6, g7, g8, Nat.reduceEqDiff, Nat.reduceAdd, false_and, and_false, true_and, and_true, reduceIte, nZ0, nZ1]
                      refine hQ _ _ ?_ ?_ ?_
                      · exact rσ
                      · exact fσ
                      · exact trivial
                  · rw [if_neg hc27_6]
                    unfold w_X16_two_133
                    try simp only [forall_eq, rII, rIJ, rIP, rJJ, rJI, rJP, rPP, rPI, rPJ, g1, g2, g3, g4, g5, g6, g7, g8, Nat.reduceEqDiff, Nat.reduceAdd, false_and, and_false, true_and, and_true, reduceIte, nZ0, nZ1]
                    split
                    · rename_i hc137
                      skip
                      unfold w_X16_two_144
                      try simp only [forall_eq, rII, rIJ, rIP, rJJ, rJI, rJP, rPP, rPI, rPJ, g1, g2, g3, g4, g5, g6, g7, g8, Nat.reduceEqDiff, Nat.reduceAdd, false_and, and_false, true_and, and_true, reduceIte, nZ0, nZ1]
                      unfold w_X16_two_145
                      try simp only [forall_eq, rII, rIJ, rIP, rJJ, rJI, rJP, rPP, rPI, rPJ, g1, g2, g3, g4, g5, g6, g7, g8, Nat.reduceEqDiff, Nat.reduceAdd, false_and, and_false, true_and, and_true, reduceIte, nZ0, nZ1]
                      refine hQ _ _ ?_ ?_ ?_
                      · exact rσ
                      · exact fσ
                      · exact trivial
                    · rename_i hc137
                      skip
                      unfold w_X16_two_140
                      try simp only [forall_eq, rII, rIJ, rIP, rJJ, rJI, rJP, rPP, rPI, rPJ, g1, g2, g3, g4, g5, g6, g7, g8, Nat.reduceEqDiff, Nat.reduceAdd, false_and, and_false, true_and, and_true, reduceIte, nZ0, nZ1]
                      unfold w_X16_two_145
                      try simp only [forall_eq, rII, rIJ, rIP, rJJ, rJI, rJP, rPP, rPI, rPJ, g1, g2, g3, g4, g5, g6, g7, g8, Nat.reduceEqDiff, Nat.reduceAdd, false_and, and_false, true_and, and_true, reduceIte, nZ0, nZ1]
                      refine hQ _ _ ?_ ?_ ?_
                      · exact rσ
                      · exact fσ
                      · exact trivial
    · rename_i hc16
      skip
      unfold w_X16_two_19
      try simp only [forall_eq, rII, rIJ, rIP, rJJ, rJI, rJP, rPP, rPI, rPJ, g1, g2, g3, g4, g5, g6, g7, g8, Nat.reduceEqDiff, Nat.reduceAdd, false_and, and_false, true_and, and_true, reduceIte, nZ0, nZ1]
      refine hQ _ _ ?_ ?_ ?_
      · refine Rg.sI g ?_ (by simp only [rgS]; first | with_reducible exact nZ_rng _ | with_reducible exact nB_rng _ | with_reducible exact wr_rng _ | with_reducible exact i32any _ | (first | omega | with_reducible assumption | (unfold rng; omega) | (unfold rng; (repeat' split) <;> omega) | grind)); exact rσ
      · refine Fr.sI g ?_ (by decide); exact fσ
      · exact trivial
  · rename_i hc3
    skip
    unfold w_X16_two_6
    try simp only [forall_eq, rII, rIJ, rIP, rJJ, rJI, rJP, rPP, rPI, rPJ, g1, g2, g3, g4, g5, g6, g7, g8, Nat.reduceEqDiff, Nat.reduceAdd, false_and, and_false, true_and, and_true, reduceIte, nZ0, nZ1]
    split
    · rename_i hc9
      skip
      unfold w_X16_two_26
      try simp only [forall_eq, rII, rIJ, rIP, rJJ, rJI, rJP, rPP, rPI, rPJ, g1, g2, g3, g4, g5, g6, g7, g8, Nat.reduceEqDiff, Nat.reduceAdd, false_and, and_false, true_and, and_true, reduceIte, nZ0, nZ1]
      by_cases hc27_0 : v1 = 3
      · rw [if_pos hc27_0]
        unfold w_X16_two_68
        try simp only [forall_eq, rII, rIJ, rIP, rJJ, rJI, rJP, rPP, rPI, rPJ, g1, g2, g3, g4, g5, g6, g7, g8, Nat.reduceEqDiff, Nat.reduceAdd, false_and, and_false, true_and, and_true, reduceIte, nZ0, nZ1]
        unfold w_X16_two_145
        try simp only [forall_eq, rII, rIJ, rIP, rJJ, rJI, rJP, rPP, rPI, rPJ, g1, g2, g3, g4, g5, g6, g7, g8, Nat.reduceEqDiff, Nat.reduceAdd, false_and, and_false, true_and, and_true, reduceIte, nZ0, nZ1]
        refine hQ _ _ ?_ ?_ ?_
        · exact rσ
        · exact fσ
        · exact trivial
      · rw [if_neg hc27_0]
        by_cases hc27_1 : v1 = 4
        · rw [if_pos hc27_1]
          unfold w_X16_two_75
          try simp only [forall_eq, rII, rIJ, rIP, rJJ, rJI, rJP, rPP, rPI, rPJ, g1, g2, g3, g4, g5, g6, g7, g8, Nat.reduceEqDiff, Nat.reduceAdd, false_and, and_false, true_and, and_true, reduceIte, nZ0, nZ1]
          unfold w_X16_two_145
          try simp only [forall_eq, rII, rIJ, rIP, rJJ, rJI, rJP, rPP, rPI, rPJ, g1, g2, g3, g4, g5, g6, g7, g8, Nat.reduceEqDiff, Nat.reduceAdd, false_and, and_false, true_and, and_true, reduceIte, nZ0, nZ1]
          refine hQ _ _ ?_ ?_ ?_
          · exact rσ
          · exact fσ
          · exact trivial
        · rw [if_neg hc27_1]
          by_cases hc27_2 : v1 = 5
          · rw [if_pos hc27_2]
            unfold w_X16_two_82
            try simp only [forall_eq, rII, rIJ, rIP, rJJ, rJI, rJP, rPP, rPI, rPJ, g1, g2, g3, g4, g5, g6, g7, g8, Nat.reduceEqDiff, Nat.reduceAdd, false_and, and_false, true_and, and_true, reduceIte, nZ0, nZ1]
            unfold w_X16_two_145
            try simp only [forall_eq, rII, rIJ, rIP, rJJ, rJI, rJP, rPP, rPI, rPJ, g1, g2, g3, g4, g5, g6, g7, g8, Nat.reduceEqDiff, Nat.reduceAdd, false_and, and_false, true_and, and_true, reduceIte, nZ0, nZ1]
            refine hQ _ _ ?_ ?_ ?_
            · exact rσ
            · exact fσ
            · exact trivial
          · rw [if_neg hc27_2]
            by_cases hc27_3 : v1 = 6
            · rw [if_pos hc27_3]
              unfold w_X16_two_89
              try simp only [forall_eq, rII, rIJ, rIP, rJJ, rJI, rJP, rPP, rPI, rPJ, g1, g2, g3, g4, g5, g6, g7, g8, Nat.reduceEqDiff, Nat.reduceAdd, false_and, and_false, true_and, and_true, reduceIte, nZ0, nZ1]
              refine ⟨by (first | omega | with_reducible assumption | (unfold rng; omega) | (unfold rng; (repeat' split) <;> omega) | grind), ?_⟩
              unfold w_X16_two_145
              try simp only [forall_eq, rII, rIJ, rIP, rJJ, rJI, rJP, rPP, rPI, rPJ, g1, g2, g3, g4, g5, g6, g7, g8, Nat.reduceEqDiff, Nat.reduceAdd, false_and, and_false, true_and, and_true, reduceIte, nZ0, nZ1]
              refine hQ _ _ ?_ ?_ ?_
              · exact rσ
              · exact fσ
              · exact trivial
            · rw [if_neg hc27_3]
              by_cases hc27_4 : v1 = 7
              · rw [if_pos hc27_4]
                unfold w_X16_two_96
                try simp only [forall_eq, rII, rIJ, rIP, rJJ, rJI, rJP, rPP, rPI, rPJ, g1, g2, g3, g4, g5, g6, g7, g8, Nat.reduceEqDiff, Nat.reduceAdd, false_and, and_false, true_and, and_true, reduceIte, nZ0, nZ1]
                refine ⟨by (first | omega | with_reducible assumption | (unfold rng; omega) | (unfold rng; (repeat' split) <;> omega) | grind), ?_⟩
                unfold w_X16_two_145
                try simp only [forall_eq, rII, rIJ, rIP, rJJ, rJI, rJP, rPP, rPI, rPJ, g1, g2, g3, g4, g5, g6, g7, g8, Nat.reduceEqDiff, Nat.reduceAdd, false_and, and_false, true_and, and_true, reduceIte, nZ0, nZ1]
                refine hQ _ _ ?_ ?_ ?_
                · exact rσ
                · exact fσ
                · exact trivial
              · rw [if_neg hc27_4]
                by_cases hc27_5 : v1 = 8
                · rw [if_pos hc27_5]
                  unfold w_X16_two_103
                  try simp only [forall_eq, rII, rIJ, rIP, rJJ, rJI, rJP, rPP, rPI, rPJ, g1, g2, g3, g4, g5, g6, g7, g8, Nat.reduceEqDiff, Nat.reduceAdd, false_and, and_false, true_and, and_true, reduceIte, nZ0, nZ1]
                  split
                  · rename_i hc107
                    skip
                    unfold w_X16_two_114
                    try simp only [forall_eq, rII, rIJ, rIP, rJJ, rJI, rJP, rPP, rPI, rPJ, g1, g2, g3, g4, g5, g6, g7, g8, Nat.reduceEqDiff, Nat.reduceAdd, false_and, and_false, true_and, and_true, reduceIte, nZ0, nZ1]
                    unfold w_X16_two_145
                    try simp only [forall_eq, rII, rIJ, rIP, rJJ, rJI, rJP, rPP, rPI, rPJ, g1, g2, g3, g4, g5, g6, g7, g8, Nat.reduceEqDiff, Nat.reduceAdd, false_and, and_false, true_and, and_true, reduceIte, nZ0, nZ1]
                    refine hQ _ _ ?_ ?_ ?_
                    · exact rσ
                    · exact fσ
                    · exact trivial
                  · rename_i hc107
                    skip
                    unfold w_X16_two_110
                    try simp only [forall_eq, rII, rIJ, rIP, rJJ, rJI, rJP, rPP, rPI, rPJ, g1, g2, g3, g4, g5, g6, g7, g8, Nat.reduceEqDiff, Nat.reduceAdd, false_and, and_false, true_and, and_true, reduceIte, nZ0, nZ1]
                    unfold w_X16_two_145
                    try simp only [forall_eq, rII, rIJ, rIP, rJJ, rJI, rJP, rPP, rPI, rPJ, g1, g2, g3, g4, g5, g6, g7, g8, Nat.reduceEqDiff, Nat.reduceAdd, false_and, and_false, true_and, and_true, reduceIte, nZ0, nZ1]
                    refine hQ _ _ ?_ ?_ ?_
                    · exact rσ
                    · exact fσ
                    · exact trivial
                · rw [if_neg hc27_5]
                  by_cases hc27_6 : v1 = 9
                  · rw [if_pos hc27_6]
                    unfold w_X16_two_118
                    try simp only [forall_eq, rII, rIJ, rIP, rJJ, rJI, rJP, rPP, rPI, rPJ, g1, g2, g3, g4, g5, g6, g7, g8, Nat.reduceEqDiff, Nat.reduceAdd, false_and, and_false, true_and, and_true, reduceIte, nZ0, nZ1]
                    split
                    · rename_i hc122
                      skip
                      unfold w_X16_two_129
                      try simp only [forall_eq, rII, rIJ, rIP, rJJ, rJI, rJP, rPP, rPI, rPJ, g1, g2, g3, g4, g5, g6, g7, g8, Nat.reduceEqDiff, Nat.reduceAdd, false_and, and_false, true_and, and_true, reduceIte, nZ0, nZ1]
                      unfold w_X16_two_145
                      try simp only [forall_eq, rII, rIJ, rIP, rJJ, rJI, rJP, rPP, rPI, rPJ, g1, g2, g3, g4, g5, g6, g7, g8, Nat.reduceEqDiff, Nat.reduceAdd, false_and, and_false, true_and, and_true, reduceIte, nZ0, nZ1]
                      refine hQ _ _ ?_ ?_ ?_
                      · exact rσ
                      · exact fσ
                      · exact trivial
                    · rename_i hc122
                      skip
                      unfold w_X16_two_125
                      try simp only [forall_eq, rII, rIJ, rIP, rJJ, rJI, rJP, rPP, rPI, rPJ, g1, g2, g3, g4, g5, g6, g7, g8, Nat.reduceEqDiff, Nat.reduceAdd, false_and, and_false, true_and, and_true, reduceIte, nZ0, nZ1]
                      unfold w_X16_two_145
                      try simp only [forall_eq, rII, rIJ, rIP, rJJ, rJI, rJP, rPP, rPI, rPJ, g1, g2, g3, g4, g5, g6, g7, g8, Nat.reduceEqDiff, Nat.reduceAdd, false_and, and_false, true_and, and_true, reduceIte, nZ0, nZ1]
                      refine hQ _ _ ?_ ?_ ?_
                      · exact rσ
                      · exact fσ
                      · exact trivial
                  · rw [if_neg hc27_6]
                    unfold w_X16_two_133
                    try simp only [forall_eq, rII, rIJ, rIP, rJJ, rJI, rJP, rPP, rPI, rPJ, g1, g2, g3, g4, g5, g6, g7, g8, Nat.reduceEqDiff, Nat.reduceAdd, false_and, and_false, true_and, and_true, reduceIte, nZ0, nZ1]
                    split
                    · rename_i hc137
                      skip
                      unfold w_X16_two_144
                      try simp only [forall_eq, rII, rIJ, rIP, rJJ, rJI, rJP, rPP, rPI, rPJ, g1, g2, g3, g4, g5, g6, g7, g8, Nat.reduceEqDiff, Nat.reduceAdd, false_and, and_false, true_and, and_true, reduceIte, nZ0, nZ1]
                      unfold w_X16_two_145
                      try simp only [forall_eq, rII, rIJ, rIP, rJJ, rJI, rJP, rPP, rPI, rPJ, g1, g2, g3, g4, g5, g6, g7, g8, Nat.reduceEqDiff, Nat.reduceAdd, false_and, and_false, true_and, and_true, reduceIte, nZ0, nZ1]
                      refine hQ _ _ ?_ ?_ ?_
                      · exact rσ
                      · exact fσ
                      · exact trivial
                    · rename_i hc137
                      skip
                      unfold w_X16_two_140
                      try simp only [forall_eq, rII, rIJ, rIP, rJJ, rJI, rJP, rPP, rPI, rPJ, g1, g2, g3, g4, g5, g6, g7, g8, Nat.reduceEqDiff, Nat.reduceAdd, false_and, and_false, true_and, and_true, reduceIte, nZ0, nZ1]
                      unfold w_X16_two_145
                      try simp only [forall_eq, rII, rIJ, rIP, rJJ, rJI, rJP, rPP, rPI, rPJ, g1, g2, g3, g4, g5, g6, g7, g8, Nat.reduceEqDiff, Nat.reduceAdd, false_and, and_false, true_and, and_true, reduceIte, nZ0, nZ1]
                      refine hQ _ _ ?_ ?_ ?_
                      · exact rσ
                      · exact fσ
                      · exact trivial
    · rename_i hc9
      skip
      unfold w_X16_two_12
      try simp only [forall_eq, rII, rIJ, rIP, rJJ, rJI, rJP, rPP, rPI, rPJ, g1, g2, g3, g4, g5, g6, g7, g8, Nat.reduceEqDiff, Nat.reduceAdd, false_and, and_false, true_and, and_true, reduceIte, nZ0, nZ1]
      split
      · rename_i hc16
        skip
        unfold w_X16_two_26
        try simp only [forall_eq, rII, rIJ, rIP, rJJ, rJI, rJP, rPP, rPI, rPJ, g1, g2, g3, g4, g5, g6, g7, g8, Nat.reduceEqDiff, Nat.reduceAdd, false_and, and_false, true_and, and_true, reduceIte, nZ0, nZ1]
        by_cases hc27_0 : v1 = 3
        · rw [if_pos hc27_0]
          unfold w_X16_two_68
          try simp only [forall_eq, rII, rIJ, rIP, rJJ, rJI, rJP, rPP, rPI, rPJ, g1, g2, g3, g4, g5, g6, g7, g8, Nat.reduceEqDiff, Nat.reduceAdd, false_and, and_false, true_and, and_true, reduceIte, nZ0, nZ1]
          unfold w_X16_two_145
          try simp only [forall_eq, rII, rIJ, rIP, rJJ, rJI, rJP, rPP, rPI, rPJ, g1, g2, g3, g4, g5, g6, g7, g8, Nat.reduceEqDiff, Nat.reduceAdd, false_and, and_false, true_and, and_true, reduceIte, nZ0, nZ1]
          refine hQ _ _ ?_ ?_ ?_
          · exact rσ
          · exact fσ
          · exact trivial
        · rw [if_neg hc27_0]
          by_cases hc27_1 : v1 = 4
          · rw [if_pos hc27_1]
            unfold w_X16_two_75
            try simp only [forall_eq, rII, rIJ, rIP, rJJ, rJI, rJP, rPP, rPI, rPJ, g1, g2, g3, g4, g5, g6, g7, g8, Nat.reduceEqDiff, Nat.reduceAdd, false_and, and_false, true_and, and_true, reduceIte, nZ0, nZ1]
            unfold w_X16_two_145
            try simp only [forall_eq, rII, rIJ, rIP, rJJ, rJI, rJP, rPP, rPI, rPJ, g1, g2, g3, g4, g5, g6, g7, g8, Nat.reduceEqDiff, Nat.reduceAdd, false_and, and_false, true_and, and_true, reduceIte, nZ0, nZ1]
            refine hQ _ _ ?_ ?_ ?_
            · exact rσ
            · exact fσ
            · exact trivial
          · rw [if_neg hc27_1]
            by_cases hc27_2 : v1 = 5
            · rw [if_pos hc27_2]
              unfold w_X16_two_82
              try simp only [forall_eq, rII, rIJ, rIP, rJJ, rJI, rJP, rPP, rPI, rPJ, g1, g2, g3, g4, g5, g6, g7, g8, Nat.reduceEqDiff, Nat.reduceAdd, false_and, and_false, true_and, and_true, reduceIte, nZ0, nZ1]
              unfold w_X16_two_145
              try simp only [forall_eq, rII, rIJ, rIP, rJJ, rJI, rJP, rPP, rPI, rPJ, g1, g2, g3, g4, g5, g6, g7, g8, Nat.reduceEqDiff, Nat.reduceAdd, false_and, and_false, true_and, and_true, reduceIte, nZ0, nZ1]
              refine hQ _ _ ?_ ?_ ?_
              · exact rσ
              · exact fσ
              · exact trivial
            · rw [if_neg hc27_2]
              by_cases hc27_3 : v1 = 6
              · rw [if_pos hc27_3]
                unfold w_X16_two_89
                try simp only [forall_eq, rII, rIJ, rIP, rJJ, rJI, rJP, rPP, rPI, rPJ, g1, g2, g3, g4, g5, g6, g7, g8, Nat.reduceEqDiff, Nat.reduceAdd, false_and, and_false, true_and, and_true, reduceIte, nZ0, nZ1]
                refine ⟨by (first | omega | with_reducible assumption | (unfold rng; omega) | (unfold rng; (repeat' split) <;> omega) | grind), ?_⟩
                unfold w_X16_two_145
                try simp only [forall_eq, rII, rIJ, rIP, rJJ, rJI, rJP, rPP, rPI, rPJ, g1, g2, g3, g4, g5, g6, g7, g8, Nat.reduceEqDiff, Nat.reduceAdd, false_and, and_false, true_and, and_true, reduceIte, nZ0, nZ1]
                refine hQ _ _ ?_ ?_ ?_
                · exact rσ
                · exact fσ
                · exact trivial
              · rw [if_neg hc27_3]
                by_cases hc27_4 : v1 = 7
                · rw [if_pos hc27_4]
                  unfold w_X16_two_96
                  try simp only [forall_eq, rII, rIJ, rIP, rJJ, rJI, rJP, rPP, rPI, rPJ, g1, g2, g3, g4, g5, g6, g7, g8, Nat.reduceEqDiff, Nat.reduceAdd, false_and, and_false, true_and, and_true, reduceIte, nZ0, nZ1]
                  refine ⟨by (first | omega | with_reducible assumption | (unfold rng; omega) | (unfold rng; (repeat' split) <;> omega) | grind), ?_⟩
                  unfold w_X16_two_145
                  try simp only [forall_eq, rII, rIJ, rIP, rJJ, rJI, rJP, rPP, rPI, rPJ, g1, g2, g3, g4, g5, g6, g7, g8, Nat.reduceEqDiff, Nat.reduceAdd, false_and, and_false, true_and, and_true, reduceIte, nZ0, nZ1]
                  refine hQ _ _ ?_ ?_ ?_
                  · exact rσ
                  · exact fσ
                  · exact trivial
                · rw [if_neg hc27_4]
                  by_cases hc27_5 : v1 = 8
                  · rw [if_pos hc27_5]
                    unfold w_X16_two_103
                    try simp only [forall_eq, rII, rIJ, rIP, rJJ, rJI, rJP, rPP, rPI, rPJ, g1, g2, g3, g4, g5, g6, g7, g8, Nat.reduceEqDiff, Nat.reduceAdd, false_and, and_false, true_and, and_true, reduceIte, nZ0, nZ1]
                    split
                    · rename_i hc107
                      skip
                      unfold w_X16_two_114
                      try simp only [forall_eq, rII, rIJ, rIP, rJJ, rJI, rJP, rPP, rPI, rPJ, g1, g2, g3, g4, g5, g6, g7, g8, Nat.reduceEqDiff, Nat.reduceAdd, false_and, and_false, true_and, and_true, reduceIte, nZ0, nZ1]
                      unfold w_X16_two_145
                      try simp only [forall_eq, rII, rIJ, rIP, rJJ, rJI, rJP, rPP, rPI, rPJ, g1, g2, g3, g4, g5, g6, g7, g8, Nat.reduceEqDiff, Nat.reduceAdd, false_and, and_false, true_and, and_true, reduceIte, nZ0, nZ1]
                      refine hQ _ _ ?_ ?_ ?_
                      · exact rσ
                      · exact fσ
                      · exact trivial
                    · rename_i hc107
                      skip
                      unfold w_X16_two_110
                      try simp only [forall_eq, rII, rIJ, rIP, rJJ, rJI, rJP, rPP, rPI, rPJ, g1, g2, g3, g4, g5, g6, g7, g8, Nat.reduceEqDiff, Nat.reduceAdd, false_and, and_false, true_and, and_true, reduceIte, nZ0, nZ1]
                      unfold w_X16_two_145
                      try simp only [forall_eq, rII, rIJ, rIP, rJJ, rJI, rJP, rPP, rPI, rPJ, g1, g2, g3, g4, g5, g6, g7, g8, Nat.reduceEqDiff, Nat.reduceAdd, false_and, and_false, true_and, and_true, reduceIte, nZ0, nZ1]
                      refine hQ _ _ ?_ ?_ ?_
                      · exact rσ
                      · exact fσ
                      · exact trivial
                  · rw [if_neg hc27_5]
                    by_cases hc27_6 : v1 = 9
                    · rw [if_pos hc27_6]
                      unfold w_X16_two_118
                      try simp only [forall_eq, rII, rIJ, rIP, rJJ, rJI, rJP, rPP, rPI, rPJ, g1, g2, g3, g4, g5, g6, g7, g8, Nat.reduceEqDiff, Nat.reduceAdd, false_and, and_false, true_and, and_true, reduceIte, nZ0, nZ1]
                      split
                      · rename_i hc122
                        skip
                        unfold w_X16_two_129
                        try simp only [forall_eq, rII, rIJ, rIP, rJJ, rJI, rJP, rPP, rPI, rPJ, g1, g2, g3, g4, g5, g6, g7, g8, Nat.reduceEqDiff, Nat.reduceAdd, false_and, and_false, true_and, and_true, reduceIte, nZ0, nZ1]
                        unfold w_X16_two_145
                        try simp only [forall_eq, rII, rIJ, rIP, rJJ, rJI, rJP, rPP, rPI, rPJ, g1, g2, g3, g4, g5, g6, g7, g8, Nat.reduceEqDiff, Nat.reduceAdd, false_and, and_false, true_and, and_true, reduceIte, nZ0, nZ1]
                        refine hQ _ _ ?_ ?_ ?_
                        · exact rσ
                        · exact fσ
                        · exact trivial
                      · rename_i hc122
                        skip
                        unfold w_X16_two_125
                        try simp only [forall_eq, rII, rIJ, rIP, rJJ, rJI, rJP, rPP, rPI, rPJ, g1, g2, g3, g4, g5, g6, g7, g8, Nat.reduceEqDiff, Nat.reduceAdd, false_and, and_false, true_and, and_true, reduceIte, nZ0, nZ1]
                        unfold w_X16_two_145
                        try simp only [forall_eq, rII, rIJ, rIP, rJJ, rJI, rJP, rPP, rPI, rPJ, g1, g2, g3, g4, g5, g6, g7, g8, Nat.reduceEqDiff, Nat.reduceAdd, false_and, and_false, true_and, and_true, reduceIte, nZ0, nZ1]
                        refine hQ _ _ ?_ ?_ ?_
                        · exact rσ
                        · exact fσ
                        · exact trivial
                    · rw [if_neg hc27_6]
                      unfold w_X16_two_133
                      try simp only [forall_eq, rII, rIJ, rIP, rJJ, rJI, rJP, rPP, rPI, rPJ, g1, g2, g3, g4, g5, g6, g7, g8, Nat.reduceEqDiff, Nat.reduceAdd, false_and, and_false, true_and, and_true, reduceIte, nZ0, nZ1]
                      split
                      · rename_i hc137
                        skip
                        unfold w_X16_two_144
                        try simp only [forall_eq, rII, rIJ, rIP, rJJ, rJI, rJP, rPP, rPI, rPJ, g1, g2, g3, g4, g5, g6, g7, g8, Nat.reduceEqDiff, Nat.reduceAdd, false_and, and_false, true_and, and_true, reduceIte, nZ0, nZ1]
                        unfold w_X16_two_145
                        try simp only [forall_eq, rII, rIJ, rIP, rJJ, rJI, rJP, rPP, rPI, rPJ, g1, g2, g3, g4, g5, g6, g7, g8, Nat.reduceEqDiff, Nat.reduceAdd, false_and, and_false, true_and, and_true, reduceIte, nZ0, nZ1]
                        refine hQ _ _ ?_ ?_ ?_
                        · exact rσ
                        · exact fσ
                        · exact trivial
                      · rename_i hc137
                        skip
                        unfold w_X16_two_140
                        try simp only [forall_eq, rII, rIJ, rIP, rJJ, rJI, rJP, rPP, rPI, rPJ, g1, g2, g3, g4, g5, g6, g7, g8, Nat.reduceEqDiff, Nat.reduceAdd, false_and, and_false, true_and, and_true, reduceIte, nZ0, nZ1]
                        unfold w_X16_two_145
                        try simp only [forall_eq, rII, rIJ, rIP, rJJ, rJI, rJP, rPP, rPI, rPJ, g1, g2, g3, g4, g5, g6, g7, g8, Nat.reduceEqDiff, Nat.reduceAdd, false_and, and_false, true_and, and_true, reduceIte, nZ0, nZ1]
                        refine hQ _ _ ?_ ?_ ?_
                        · exact rσ
                        · exact fσ
                        · exact trivial
      · rename_i hc16
        skip
        unfold w_X16_two_19
        try simp only [forall_eq, rII, rIJ, rIP, rJJ, rJI, rJP, rPP, rPI, rPJ, g1, g2, g3, g4, g5, g6, g7, g8, Nat.reduceEqDiff, Nat.reduceAdd, false_and, and_false, true_and, and_true, reduceIte, nZ0, nZ1]
        refine hQ _ _ ?_ ?_ ?_
        · refine Rg.sI g ?_ (by simp only [rgS]; first | with_reducible exact nZ_rng _ | with_reducible exact nB_rng _ | with_reducible exact wr_rng _ | with_reducible exact i32any _ | (first | omega | with_reducible assumption | (unfold rng; omega) | (unfold rng; (repeat' split) <;> omega) | grind)); exact rσ
        · refine Fr.sI g ?_ (by decide); exact fσ
        · exact trivial
set_option maxHeartbeats 8000000 in
theorem s_X16_worth {ra : Nat → Nat} {jx : Nat → Nat → Nat} {rm : Nat} {b5 : Nat} {n5 : Nat} {ja : Nat} (g : Geo ra jx rm) {σ : Sg} {v1 : Option Nat} {v2 : Int} {v3 : Int64} {v5 : Option Nat} {v6 : Int} (rσ : Rg ra jx rm σ) (ha5 : v5 = some b5) (hr5 : rAr ra jx b5 101 n5) (hv1 : v1 = some ja) (hja : ja = ra 15 ∨ ja = ra 16) (hpo : PO jx ja σ v2) (h6 : 0 ≤ v6 ∧ v6 + 8 ≤ (n5 : Int)) (hn5 : (n5 : Int) ≤ 102416) {Q : Sg → Int64 → Prop} {X : Sg → String → Prop} (hQ : ∀ (σ' : Sg) (r : Int64), Rg ra jx rm σ' → Fr ra jx rm [20] [21] σ σ' → (True) → Q σ' r) : wp_X16_worth ra jx rm v1 v2 v3 v5 v6 σ Q X := by
  obtain ⟨g1, g2, g3, g4, g5, g6, g7, g8⟩ := id g
  have fσ : Fr ra jx rm [20] [21] σ σ := Fr.rf
  obtain ⟨dp, hP, hq1, hq2, hq3, hq4⟩ := hpo
  unfold wp_X16_worth
  unfold w_X16_worth_0
  try simp only [forall_eq, rII, rIJ, rIP, rJJ, rJI, rJP, rPP, rPI, rPJ, g1, g2, g3, g4, g5, g6, g7, g8, Nat.reduceEqDiff, Nat.reduceAdd, false_and, and_false, true_and, and_true, reduceIte, nZ0, nZ1]
  have L11 : ∀ (fu11 : Nat) (τ11 : Sg) (v7 : Int) (v8 : Int), Rg ra jx rm τ11 → Fr ra jx rm [20] [21] σ τ11 → (0 ≤ v8 ∧ v8 < gI σ ja 17 ∧ dp v8 = v7 ∧ 0 ≤ v7) → ((gI σ ja 17 - v8).toNat) < fu11 → wl_X16_worth_11 ra jx rm Q X fu11 τ11 v1 v3 v5 v6 v7 v8 := by
    intro fu11
    induction fu11 with
    | zero => intro τ11 _ _ _ _ _ h9; omega
    | succ fu11 ih11 =>
      intro τ11 v7 v8 rτ11 fτ11 hi11 hm11
      unfold wl_X16_worth_11
      have jτ11 := fτ11.2.2.1
      unfold w_X16_worth_11
      try simp only [forall_eq, rII, rIJ, rIP, rJJ, rJI, rJP, rPP, rPI, rPJ, g1, g2, g3, g4, g5, g6, g7, g8, Nat.reduceEqDiff, Nat.reduceAdd, false_and, and_false, true_and, and_true, reduceIte, nZ0, nZ1, fun a k => (jτ11 a k).1, fun a k => (jτ11 a k).2]
      have hp8 := hP v8 (by omega) (by omega) (by omega)
      refine ⟨ja, by exact hv1, hja, ?_⟩
      refine ⟨by (first | omega | with_reducible assumption | (unfold rng; omega) | (unfold rng; (repeat' split) <;> omega) | grind), ?_⟩
      have q2 := rσ.2.2.1 ja 15 (v8.toNat); simp only [rgJ] at q2
      split
      · rename_i hc20
        skip
        unfold w_X16_worth_372
        try simp only [forall_eq, rII, rIJ, rIP, rJJ, rJI, rJP, rPP, rPI, rPJ, g1, g2, g3, g4, g5, g6, g7, g8, Nat.reduceEqDiff, Nat.reduceAdd, false_and, and_false, true_and, and_true, reduceIte, nZ0, nZ1, fun a k => (jτ11 a k).1, fun a k => (jτ11 a k).2]
        have q3 := rτ11.2.1 21; simp only [rgS] at q3
        split
        · rename_i hc376
          skip
          unfold w_X16_worth_383
          try simp only [forall_eq, rII, rIJ, rIP, rJJ, rJI, rJP, rPP, rPI, rPJ, g1, g2, g3, g4, g5, g6, g7, g8, Nat.reduceEqDiff, Nat.reduceAdd, false_and, and_false, true_and, and_true, reduceIte, nZ0, nZ1, fun a k => (jτ11 a k).1, fun a k => (jτ11 a k).2]
          unfold w_X16_worth_389
          try simp only [forall_eq, rII, rIJ, rIP, rJJ, rJI, rJP, rPP, rPI, rPJ, g1, g2, g3, g4, g5, g6, g7, g8, Nat.reduceEqDiff, Nat.reduceAdd, false_and, and_false, true_and, and_true, reduceIte, nZ0, nZ1, fun a k => (jτ11 a k).1, fun a k => (jτ11 a k).2]
          refine hQ _ _ ?_ ?_ ?_
          · exact rτ11
          · exact fτ11
          · exact trivial
        · rename_i hc376
          skip
          unfold w_X16_worth_379
          try simp only [forall_eq, rII, rIJ, rIP, rJJ, rJI, rJP, rPP, rPI, rPJ, g1, g2, g3, g4, g5, g6, g7, g8, Nat.reduceEqDiff, Nat.reduceAdd, false_and, and_false, true_and, and_true, reduceIte, nZ0, nZ1, fun a k => (jτ11 a k).1, fun a k => (jτ11 a k).2]
          unfold w_X16_worth_389
          try simp only [forall_eq, rII, rIJ, rIP, rJJ, rJI, rJP, rPP, rPI, rPJ, g1, g2, g3, g4, g5, g6, g7, g8, Nat.reduceEqDiff, Nat.reduceAdd, false_and, and_false, true_and, and_true, reduceIte, nZ0, nZ1, fun a k => (jτ11 a k).1, fun a k => (jτ11 a k).2]
          refine hQ _ _ ?_ ?_ ?_
          · exact rτ11
          · exact fτ11
          · exact trivial
      · rename_i hc20
        skip
        unfold w_X16_worth_23
        try simp only [forall_eq, rII, rIJ, rIP, rJJ, rJI, rJP, rPP, rPI, rPJ, g1, g2, g3, g4, g5, g6, g7, g8, Nat.reduceEqDiff, Nat.reduceAdd, false_and, and_false, true_and, and_true, reduceIte, nZ0, nZ1, fun a k => (jτ11 a k).1, fun a k => (jτ11 a k).2]
        have q4 := rτ11.2.1 21; simp only [rgS] at q4
        split
        · rename_i hc27
          skip
          unfold w_X16_worth_372
          try simp only [forall_eq, rII, rIJ, rIP, rJJ, rJI, rJP, rPP, rPI, rPJ, g1, g2, g3, g4, g5, g6, g7, g8, Nat.reduceEqDiff, Nat.reduceAdd, false_and, and_false, true_and, and_true, reduceIte, nZ0, nZ1, fun a k => (jτ11 a k).1, fun a k => (jτ11 a k).2]
          rw [if_neg (show ¬ ((gI τ11 rm 21) = 0) by omega)]
          unfold w_X16_worth_379
          try simp only [forall_eq, rII, rIJ, rIP, rJJ, rJI, rJP, rPP, rPI, rPJ, g1, g2, g3, g4, g5, g6, g7, g8, Nat.reduceEqDiff, Nat.reduceAdd, false_and, and_false, true_and, and_true, reduceIte, nZ0, nZ1, fun a k => (jτ11 a k).1, fun a k => (jτ11 a k).2]
          unfold w_X16_worth_389
          try simp only [forall_eq, rII, rIJ, rIP, rJJ, rJI, rJP, rPP, rPI, rPJ, g1, g2, g3, g4, g5, g6, g7, g8, Nat.reduceEqDiff, Nat.reduceAdd, false_and, and_false, true_and, and_true, reduceIte, nZ0, nZ1, fun a k => (jτ11 a k).1, fun a k => (jτ11 a k).2]
          refine hQ _ _ ?_ ?_ ?_
          · exact rτ11
          · exact fτ11
          · exact trivial
        · rename_i hc27
          skip
          unfold w_X16_worth_30
          try simp only [forall_eq, rII, rIJ, rIP, rJJ, rJI, rJP, rPP, rPI, rPJ, g1, g2, g3, g4, g5, g6, g7, g8, Nat.reduceEqDiff, Nat.reduceAdd, false_and, and_false, true_and, and_true, reduceIte, nZ0, nZ1, fun a k => (jτ11 a k).1, fun a k => (jτ11 a k).2]
          refine ⟨ja, by exact hv1, hja, ?_⟩
          refine ⟨by (first | omega | with_reducible assumption | (unfold rng; omega) | (unfold rng; (repeat' split) <;> omega) | grind), ?_⟩
          refine ⟨ja, by exact hv1, hja, ?_⟩
          refine ⟨by (first | omega | with_reducible assumption | (unfold rng; omega) | (unfold rng; (repeat' split) <;> omega) | grind), ?_⟩
          refine ⟨by (first | omega | with_reducible assumption | (unfold rng; omega) | (unfold rng; (repeat' split) <;> omega) | grind), ?_⟩
          by_cases hc53_0 : (gI σ (jx ja 15) v8.toNat) = 0
          · rw [if_pos hc53_0]
            unfold w_X16_worth_136
            try simp only [forall_eq, rII, rIJ, rIP, rJJ, rJI, rJP, rPP, rPI, rPJ, g1, g2, g3, g4, g5, g6, g7, g8, Nat.reduceEqDiff, Nat.reduceAdd, false_and, and_false, true_and, and_true, reduceIte, nZ0, nZ1, fun a k => (jτ11 a k).1, fun a k => (jτ11 a k).2]
            refine ⟨by (first | omega | with_reducible assumption | (unfold rng; omega) | (unfold rng; (repeat' split) <;> omega) | grind), ?_⟩
            refine ⟨by (first | omega | with_reducible assumption | (unfold rng; omega) | (unfold rng; (repeat' split) <;> omega) | grind), ?_⟩
            unfold w_X16_worth_369
            try simp only [forall_eq, rII, rIJ, rIP, rJJ, rJI, rJP, rPP, rPI, rPJ, g1, g2, g3, g4, g5, g6, g7, g8, Nat.reduceEqDiff, Nat.reduceAdd, false_and, and_false, true_and, and_true, reduceIte, nZ0, nZ1, fun a k => (jτ11 a k).1, fun a k => (jτ11 a k).2]
            refine ih11 _ _ _ ?_ ?_ ?_ ?_
            · refine Rg.aJ g ?_ (by simp only [rlT]; first | with_reducible assumption | omega | exact Int64.toInt_le _ | (rw [Int64.toInt_ofInt_of_le (by omega) (by omega)]; omega) | grind); exact rτ11
            · refine Fr.aJ g ?_ (by decide); exact fτ11
            · (try simp only [rII, rIJ, rIP, rJJ, rJI, rJP, rPP, rPI, rPJ, g1, g2, g3, g4, g5, g6, g7, g8, Nat.reduceEqDiff, Nat.reduceAdd, false_and, and_false, true_and, and_true, reduceIte, nZ0, nZ1, fun a k => (jτ11 a k).1, fun a k => (jτ11 a k).2]) <;> (first | omega | with_reducible assumption | (unfold rng; omega) | (unfold rng; (repeat' split) <;> omega) | grind)
            · (try simp only [rII, rIJ, rIP, rJJ, rJI, rJP, rPP, rPI, rPJ, g1, g2, g3, g4, g5, g6, g7, g8, Nat.reduceEqDiff, Nat.reduceAdd, false_and, and_false, true_and, and_true, reduceIte, nZ0, nZ1, fun a k => (jτ11 a k).1, fun a k => (jτ11 a k).2]) <;> (first | omega | with_reducible assumption | (unfold rng; omega) | (unfold rng; (repeat' split) <;> omega) | grind)
          · rw [if_neg hc53_0]
            by_cases hc53_1 : (gI σ (jx ja 15) v8.toNat) = 1
            · rw [if_pos hc53_1]
              unfold w_X16_worth_151
              try simp only [forall_eq, rII, rIJ, rIP, rJJ, rJI, rJP, rPP, rPI, rPJ, g1, g2, g3, g4, g5, g6, g7, g8, Nat.reduceEqDiff, Nat.reduceAdd, false_and, and_false, true_and, and_true, reduceIte, nZ0, nZ1, fun a k => (jτ11 a k).1, fun a k => (jτ11 a k).2]
              refine ⟨by (first | omega | with_reducible assumption | (unfold rng; omega) | (unfold rng; (repeat' split) <;> omega) | grind), ?_⟩
              refine ⟨by (first | omega | with_reducible assumption | (unfold rng; omega) | (unfold rng; (repeat' split) <;> omega) | grind), ?_⟩
              refine ⟨b5, n5, ha5, hr5, by (first | omega | with_reducible assumption | (unfold rng; omega) | (unfold rng; (repeat' split) <;> omega) | grind), ?_⟩
              refine ⟨by (first | omega | with_reducible assumption | (unfold rng; omega) | (unfold rng; (repeat' split) <;> omega) | grind), ?_⟩
              unfold w_X16_worth_369
              try simp only [forall_eq, rII, rIJ, rIP, rJJ, rJI, rJP, rPP, rPI, rPJ, g1, g2, g3, g4, g5, g6, g7, g8, Nat.reduceEqDiff, Nat.reduceAdd, false_and, and_false, true_and, and_true, reduceIte, nZ0, nZ1, fun a k => (jτ11 a k).1, fun a k => (jτ11 a k).2]
              refine ih11 _ _ _ ?_ ?_ ?_ ?_
              · refine Rg.aJ g ?_ (by simp only [rlT]; first | with_reducible assumption | omega | exact Int64.toInt_le _ | (rw [Int64.toInt_ofInt_of_le (by omega) (by omega)]; omega) | grind); exact rτ11
              · refine Fr.aJ g ?_ (by decide); exact fτ11
              · (try simp only [rII, rIJ, rIP, rJJ, rJI, rJP, rPP, rPI, rPJ, g1, g2, g3, g4, g5, g6, g7, g8, Nat.reduceEqDiff, Nat.reduceAdd, false_and, and_false, true_and, and_true, reduceIte, nZ0, nZ1, fun a k => (jτ11 a k).1, fun a k => (jτ11 a k).2]) <;> (first | omega | with_reducible assumption | (unfold rng; omega) | (unfold rng; (repeat' split) <;> omega) | grind)
              · (try simp only [rII, rIJ, rIP, rJJ, rJI, rJP, rPP, rPI, rPJ, g1, g2, g3, g4, g5, g6, g7, g8, Nat.reduceEqDiff, Nat.reduceAdd, false_and, and_false, true_and, and_true, reduceIte, nZ0, nZ1, fun a k => (jτ11 a k).1, fun a k => (jτ11 a k).2]) <;> (first | omega | with_reducible assumption | (unfold rng; omega) | (unfold rng; (repeat' split) <;> omega) | grind)
            · rw [if_neg hc53_1]
              by_cases hc53_2 : (gI σ (jx ja 15) v8.toNat) = 2
              · rw [if_pos hc53_2]
                unfold w_X16_worth_173
                try simp only [forall_eq, rII, rIJ, rIP, rJJ, rJI, rJP, rPP, rPI, rPJ, g1, g2, g3, g4, g5, g6, g7, g8, Nat.reduceEqDiff, Nat.reduceAdd, false_and, and_false, true_and, and_true, reduceIte, nZ0, nZ1, fun a k => (jτ11 a k).1, fun a k => (jτ11 a k).2]
                refine ⟨by (first | omega | with_reducible assumption | (unfold rng; omega) | (unfold rng; (repeat' split) <;> omega) | grind), ?_⟩
                refine ⟨by (first | omega | with_reducible assumption | (unfold rng; omega) | (unfold rng; (repeat' split) <;> omega) | grind), ?_⟩
                unfold w_X16_worth_369
                try simp only [forall_eq, rII, rIJ, rIP, rJJ, rJI, rJP, rPP, rPI, rPJ, g1, g2, g3, g4, g5, g6, g7, g8, Nat.reduceEqDiff, Nat.reduceAdd, false_and, and_false, true_and, and_true, reduceIte, nZ0, nZ1, fun a k => (jτ11 a k).1, fun a k => (jτ11 a k).2]
                refine ih11 _ _ _ ?_ ?_ ?_ ?_
                · refine Rg.aJ g ?_ (by simp only [rlT]; first | with_reducible assumption | omega | exact Int64.toInt_le _ | (rw [Int64.toInt_ofInt_of_le (by omega) (by omega)]; omega) | grind); exact rτ11
                · refine Fr.aJ g ?_ (by decide); exact fτ11
                · (try simp only [rII, rIJ, rIP, rJJ, rJI, rJP, rPP, rPI, rPJ, g1, g2, g3, g4, g5, g6, g7, g8, Nat.reduceEqDiff, Nat.reduceAdd, false_and, and_false, true_and, and_true, reduceIte, nZ0, nZ1, fun a k => (jτ11 a k).1, fun a k => (jτ11 a k).2]) <;> (first | omega | with_reducible assumption | (unfold rng; omega) | (unfold rng; (repeat' split) <;> omega) | grind)
                · (try simp only [rII, rIJ, rIP, rJJ, rJI, rJP, rPP, rPI, rPJ, g1, g2, g3, g4, g5, g6, g7, g8, Nat.reduceEqDiff, Nat.reduceAdd, false_and, and_false, true_and, and_true, reduceIte, nZ0, nZ1, fun a k => (jτ11 a k).1, fun a k => (jτ11 a k).2]) <;> (first | omega | with_reducible assumption | (unfold rng; omega) | (unfold rng; (repeat' split) <;> omega) | grind)
              · rw [if_neg hc53_2]
                by_cases hc53_11 : (gI σ (jx ja 15) v8.toNat) = 11
                · rw [if_pos hc53_11]
                  unfold w_X16_worth_187
                  try simp only [forall_eq, rII, rIJ, rIP, rJJ, rJI, rJP, rPP, rPI, rPJ, g1, g2, g3, g4, g5, g6, g7, g8, Nat.reduceEqDiff, Nat.reduceAdd, false_and, and_false, true_and, and_true, reduceIte, nZ0, nZ1, fun a k => (jτ11 a k).1, fun a k => (jτ11 a k).2]
                  refine ⟨by (first | omega | with_reducible assumption | (unfold rng; omega) | (unfold rng; (repeat' split) <;> omega) | grind), ?_⟩
                  refine ⟨by (first | omega | with_reducible assumption | (unfold rng; omega) | (unfold rng; (repeat' split) <;> omega) | grind), ?_⟩
                  refine ⟨by (first | omega | with_reducible assumption | (unfold rng; omega) | (unfold rng; (repeat' split) <;> omega) | grind), ?_⟩
                  refine ⟨by (first | omega | with_reducible assumption | (unfold rng; omega) | (unfold rng; (repeat' split) <;> omega) | grind), ?_⟩
                  unfold w_X16_worth_369
                  try simp only [forall_eq, rII, rIJ, rIP, rJJ, rJI, rJP, rPP, rPI, rPJ, g1, g2, g3, g4, g5, g6, g7, g8, Nat.reduceEqDiff, Nat.reduceAdd, false_and, and_false, true_and, and_true, reduceIte, nZ0, nZ1, fun a k => (jτ11 a k).1, fun a k => (jτ11 a k).2]
                  refine ih11 _ _ _ ?_ ?_ ?_ ?_
                  · refine Rg.aJ g ?_ (by simp only [rlT]; first | with_reducible assumption | omega | exact Int64.toInt_le _ | (rw [Int64.toInt_ofInt_of_le (by omega) (by omega)]; omega) | grind); exact rτ11
                  · refine Fr.aJ g ?_ (by decide); exact fτ11
                  · (try simp only [rII, rIJ, rIP, rJJ, rJI, rJP, rPP, rPI, rPJ, g1, g2, g3, g4, g5, g6, g7, g8, Nat.reduceEqDiff, Nat.reduceAdd, false_and, and_false, true_and, and_true, reduceIte, nZ0, nZ1, fun a k => (jτ11 a k).1, fun a k => (jτ11 a k).2]) <;> (first | omega | with_reducible assumption | (unfold rng; omega) | (unfold rng; (repeat' split) <;> omega) | grind)
                  · (try simp only [rII, rIJ, rIP, rJJ, rJI, rJP, rPP, rPI, rPJ, g1, g2, g3, g4, g5, g6, g7, g8, Nat.reduceEqDiff, Nat.reduceAdd, false_and, and_false, true_and, and_true, reduceIte, nZ0, nZ1, fun a k => (jτ11 a k).1, fun a k => (jτ11 a k).2]) <;> (first | omega | with_reducible assumption | (unfold rng; omega) | (unfold rng; (repeat' split) <;> omega) | grind)
                · rw [if_neg hc53_11]
                  by_cases hc53_12 : (gI σ (jx ja 15) v8.toNat) = 12
                  · rw [if_pos hc53_12]
                    unfold w_X16_worth_209
                    try simp only [forall_eq, rII, rIJ, rIP, rJJ, rJI, rJP, rPP, rPI, rPJ, g1, g2, g3, g4, g5, g6, g7, g8, Nat.reduceEqDiff, Nat.reduceAdd, false_and, and_false, true_and, and_true, reduceIte, nZ0, nZ1, fun a k => (jτ11 a k).1, fun a k => (jτ11 a k).2]
                    refine ⟨by (first | omega | with_reducible assumption | (unfold rng; omega) | (unfold rng; (repeat' split) <;> omega) | grind), ?_⟩
                    refine ⟨by (first | omega | with_reducible assumption | (unfold rng; omega) | (unfold rng; (repeat' split) <;> omega) | grind), ?_⟩
                    refine ⟨by (first | omega | with_reducible assumption | (unfold rng; omega) | (unfold rng; (repeat' split) <;> omega) | grind), ?_⟩
                    split
                    · rename_i hc228
                      skip
                      unfold w_X16_worth_235
                      try simp only [forall_eq, rII, rIJ, rIP, rJJ, rJI, rJP, rPP, rPI, rPJ, g1, g2, g3, g4, g5, g6, g7, g8, Nat.reduceEqDiff, Nat.reduceAdd, false_and, and_false, true_and, and_true, reduceIte, nZ0, nZ1, fun a k => (jτ11 a k).1, fun a k => (jτ11 a k).2]
                      unfold w_X16_worth_236
                      try simp only [forall_eq, rII, rIJ, rIP, rJJ, rJI, rJP, rPP, rPI, rPJ, g1, g2, g3, g4, g5, g6, g7, g8, Nat.reduceEqDiff, Nat.reduceAdd, false_and, and_false, true_and, and_true, reduceIte, nZ0, nZ1, fun a k => (jτ11 a k).1, fun a k => (jτ11 a k).2]
                      refine ⟨by (first | omega | with_reducible assumption | (unfold rng; omega) | (unfold rng; (repeat' split) <;> omega) | grind), ?_⟩
                      unfold w_X16_worth_369
                      try simp only [forall_eq, rII, rIJ, rIP, rJJ, rJI, rJP, rPP, rPI, rPJ, g1, g2, g3, g4, g5, g6, g7, g8, Nat.reduceEqDiff, Nat.reduceAdd, false_and, and_false, true_and, and_true, reduceIte, nZ0, nZ1, fun a k => (jτ11 a k).1, fun a k => (jτ11 a k).2]
                      refine ih11 _ _ _ ?_ ?_ ?_ ?_
                      · refine Rg.aJ g ?_ (by simp only [rlT]; first | with_reducible assumption | omega | exact Int64.toInt_le _ | (rw [Int64.toInt_ofInt_of_le (by omega) (by omega)]; omega) | grind); exact rτ11
                      · refine Fr.aJ g ?_ (by decide); exact fτ11
                      · (try simp only [rII, rIJ, rIP, rJJ, rJI, rJP, rPP, rPI, rPJ, g1, g2, g3, g4, g5, g6, g7, g8, Nat.reduceEqDiff, Nat.reduceAdd, false_and, and_false, true_and, and_true, reduceIte, nZ0, nZ1, fun a k => (jτ11 a k).1, fun a k => (jτ11 a k).2]) <;> (first | omega | with_reducible assumption | (unfold rng; omega) | (unfold rng; (repeat' split) <;> omega) | grind)
                      · (try simp only [rII, rIJ, rIP, rJJ, rJI, rJP, rPP, rPI, rPJ, g1, g2, g3, g4, g5, g6, g7, g8, Nat.reduceEqDiff, Nat.reduceAdd, false_and, and_false, true_and, and_true, reduceIte, nZ0, nZ1, fun a k => (jτ11 a k).1, fun a k => (jτ11 a k).2]) <;> (first | omega | with_reducible assumption | (unfold rng; omega) | (unfold rng; (repeat' split) <;> omega) | grind)
                    · rename_i hc228
                      skip
                      unfold w_X16_worth_231
                      try simp only [forall_eq, rII, rIJ, rIP, rJJ, rJI, rJP, rPP, rPI, rPJ, g1, g2, g3, g4, g5, g6, g7, g8, Nat.reduceEqDiff, Nat.reduceAdd, false_and, and_false, true_and, and_true, reduceIte, nZ0, nZ1, fun a k => (jτ11 a k).1, fun a k => (jτ11 a k).2]
                      unfold w_X16_worth_236
                      try simp only [forall_eq, rII, rIJ, rIP, rJJ, rJI, rJP, rPP, rPI, rPJ, g1, g2, g3, g4, g5, g6, g7, g8, Nat.reduceEqDiff, Nat.reduceAdd, false_and, and_false, true_and, and_true, reduceIte, nZ0, nZ1, fun a k => (jτ11 a k).1, fun a k => (jτ11 a k).2]
                      refine ⟨by (first | omega | with_reducible assumption | (unfold rng; omega) | (unfold rng; (repeat' split) <;> omega) | grind), ?_⟩
                      unfold w_X16_worth_369
                      try simp only [forall_eq, rII, rIJ, rIP, rJJ, rJI, rJP, rPP, rPI, rPJ, g1, g2, g3, g4, g5, g6, g7, g8, Nat.reduceEqDiff, Nat.reduceAdd, false_and, and_false, true_and, and_true, reduceIte, nZ0, nZ1, fun a k => (jτ11 a k).1, fun a k => (jτ11 a k).2]
                      refine ih11 _ _ _ ?_ ?_ ?_ ?_
                      · refine Rg.aJ g ?_ (by simp only [rlT]; first | with_reducible assumption | omega | exact Int64.toInt_le _ | (rw [Int64.toInt_ofInt_of_le (by omega) (by omega)]; omega) | grind); exact rτ11
                      · refine Fr.aJ g ?_ (by decide); exact fτ11
                      · (try simp only [rII, rIJ, rIP, rJJ, rJI, rJP, rPP, rPI, rPJ, g1, g2, g3, g4, g5, g6, g7, g8, Nat.reduceEqDiff, Nat.reduceAdd, false_and, and_false, true_and, and_true, reduceIte, nZ0, nZ1, fun a k => (jτ11 a k).1, fun a k => (jτ11 a k).2]) <;> (first | omega | with_reducible assumption | (unfold rng; omega) | (unfold rng; (repeat' split) <;> omega) | grind)
                      · (try simp only [rII, rIJ, rIP, rJJ, rJI, rJP, rPP, rPI, rPJ, g1, g2, g3, g4, g5, g6, g7, g8, Nat.reduceEqDiff, Nat.reduceAdd, false_and, and_false, true_and, and_true, reduceIte, nZ0, nZ1, fun a k => (jτ11 a k).1, fun a k => (jτ11 a k).2]) <;> (first | omega | with_reducible assumption | (unfold rng; omega) | (unfold rng; (repeat' split) <;> omega) | grind)
                  · rw [if_neg hc53_12]
                    by_cases hc53_13 : (gI σ (jx ja 15) v8.toNat) = 13
                    · rw [if_pos hc53_13]
                      unfold w_X16_worth_271
                      try simp only [forall_eq, rII, rIJ, rIP, rJJ, rJI, rJP, rPP, rPI, rPJ, g1, g2, g3, g4, g5, g6, g7, g8, Nat.reduceEqDiff, Nat.reduceAdd, false_and, and_false, true_and, and_true, reduceIte, nZ0, nZ1, fun a k => (jτ11 a k).1, fun a k => (jτ11 a k).2]
                      refine ⟨by (first | omega | with_reducible assumption | (unfold rng; omega) | (unfold rng; (repeat' split) <;> omega) | grind), ?_⟩
                      refine ⟨by (first | omega | with_reducible assumption | (unfold rng; omega) | (unfold rng; (repeat' split) <;> omega) | grind), ?_⟩
                      split
                      · rename_i hc283
                        skip
                        unfold w_X16_worth_292
                        try simp only [forall_eq, rII, rIJ, rIP, rJJ, rJI, rJP, rPP, rPI, rPJ, g1, g2, g3, g4, g5, g6, g7, g8, Nat.reduceEqDiff, Nat.reduceAdd, false_and, and_false, true_and, and_true, reduceIte, nZ0, nZ1, fun a k => (jτ11 a k).1, fun a k => (jτ11 a k).2]
                        unfold w_X16_worth_294
                        try simp only [forall_eq, rII, rIJ, rIP, rJJ, rJI, rJP, rPP, rPI, rPJ, g1, g2, g3, g4, g5, g6, g7, g8, Nat.reduceEqDiff, Nat.reduceAdd, false_and, and_false, true_and, and_true, reduceIte, nZ0, nZ1, fun a k => (jτ11 a k).1, fun a k => (jτ11 a k).2]
                        unfold w_X16_worth_369
                        try simp only [forall_eq, rII, rIJ, rIP, rJJ, rJI, rJP, rPP, rPI, rPJ, g1, g2, g3, g4, g5, g6, g7, g8, Nat.reduceEqDiff, Nat.reduceAdd, false_and, and_false, true_and, and_true, reduceIte, nZ0, nZ1, fun a k => (jτ11 a k).1, fun a k => (jτ11 a k).2]
                        refine ih11 _ _ _ ?_ ?_ ?_ ?_
                        · exact rτ11
                        · exact fτ11
                        · (try simp only [rII, rIJ, rIP, rJJ, rJI, rJP, rPP, rPI, rPJ, g1, g2, g3, g4, g5, g6, g7, g8, Nat.reduceEqDiff, Nat.reduceAdd, false_and, and_false, true_and, and_true, reduceIte, nZ0, nZ1, fun a k => (jτ11 a k).1, fun a k => (jτ11 a k).2]) <;> (first | omega | with_reducible assumption | (unfold rng; omega) | (unfold rng; (repeat' split) <;> omega) | grind)
                        · (try simp only [rII, rIJ, rIP, rJJ, rJI, rJP, rPP, rPI, rPJ, g1, g2, g3, g4, g5, g6, g7, g8, Nat.reduceEqDiff, Nat.reduceAdd, false_and, and_false, true_and, and_true, reduceIte, nZ0, nZ1, fun a k => (jτ11 a k).1, fun a k => (jτ11 a k).2]) <;> (first | omega | with_reducible assumption | (unfold rng; omega) | (unfold rng; (repeat' split) <;> omega) | grind)
                      · rename_i hc283
                        skip
                        unfold w_X16_worth_286
                        try simp only [forall_eq, rII, rIJ, rIP, rJJ, rJI, rJP, rPP, rPI, rPJ, g1, g2, g3, g4, g5, g6, g7, g8, Nat.reduceEqDiff, Nat.reduceAdd, false_and, and_false, true_and, and_true, reduceIte, nZ0, nZ1, fun a k => (jτ11 a k).1, fun a k => (jτ11 a k).2]
                        unfold w_X16_worth_294
                        try simp only [forall_eq, rII, rIJ, rIP, rJJ, rJI, rJP, rPP, rPI, rPJ, g1, g2, g3, g4, g5, g6, g7, g8, Nat.reduceEqDiff, Nat.reduceAdd, false_and, and_false, true_and, and_true, reduceIte, nZ0, nZ1, fun a k => (jτ11 a k).1, fun a k => (jτ11 a k).2]
                        unfold w_X16_worth_369
                        try simp only [forall_eq, rII, rIJ, rIP, rJJ, rJI, rJP, rPP, rPI, rPJ, g1, g2, g3, g4, g5, g6, g7, g8, Nat.reduceEqDiff, Nat.reduceAdd, false_and, and_false, true_and, and_true, reduceIte, nZ0, nZ1, fun a k => (jτ11 a k).1, fun a k => (jτ11 a k).2]
                        refine ih11 _ _ _ ?_ ?_ ?_ ?_
                        · exact rτ11
                        · exact fτ11
                        · (try simp only [rII, rIJ, rIP, rJJ, rJI, rJP, rPP, rPI, rPJ, g1, g2, g3, g4, g5, g6, g7, g8, Nat.reduceEqDiff, Nat.reduceAdd, false_and, and_false, true_and, and_true, reduceIte, nZ0, nZ1, fun a k => (jτ11 a k).1, fun a k => (jτ11 a k).2]) <;> (first | omega | with_reducible assumption | (unfold rng; omega) | (unfold rng; (repeat' split) <;> omega) | grind)
                        · (try simp only [rII, rIJ, rIP, rJJ, rJI, rJP, rPP, rPI, rPJ, g1, g2, g3, g4, g5, g6, g7, g8, Nat.reduceEqDiff, Nat.reduceAdd, false_and, and_false, true_and, and_true, reduceIte, nZ0, nZ1, fun a k => (jτ11 a k).1, fun a k => (jτ11 a k).2]) <;> (first | omega | with_reducible assumption | (unfold rng; omega) | (unfold rng; (repeat' split) <;> omega) | grind)
                    · rw [if_neg hc53_13]
                      by_cases hc53_14 : (gI σ (jx ja 15) v8.toNat) = 14
                      · rw [if_pos hc53_14]
                        unfold w_X16_worth_299
                        try simp only [forall_eq, rII, rIJ, rIP, rJJ, rJI, rJP, rPP, rPI, rPJ, g1, g2, g3, g4, g5, g6, g7, g8, Nat.reduceEqDiff, Nat.reduceAdd, false_and, and_false, true_and, and_true, reduceIte, nZ0, nZ1, fun a k => (jτ11 a k).1, fun a k => (jτ11 a k).2]
                        refine ⟨by (first | omega | with_reducible assumption | (unfold rng; omega) | (unfold rng; (repeat' split) <;> omega) | grind), ?_⟩
                        refine ⟨by (first | omega | with_reducible assumption | (unfold rng; omega) | (unfold rng; (repeat' split) <;> omega) | grind), ?_⟩
                        split
                        · rename_i hc311
                          skip
                          unfold w_X16_worth_320
                          try simp only [forall_eq, rII, rIJ, rIP, rJJ, rJI, rJP, rPP, rPI, rPJ, g1, g2, g3, g4, g5, g6, g7, g8, Nat.reduceEqDiff, Nat.reduceAdd, false_and, and_false, true_and, and_true, reduceIte, nZ0, nZ1, fun a k => (jτ11 a k).1, fun a k => (jτ11 a k).2]
                          unfold w_X16_worth_322
                          try simp only [forall_eq, rII, rIJ, rIP, rJJ, rJI, rJP, rPP, rPI, rPJ, g1, g2, g3, g4, g5, g6, g7, g8, Nat.reduceEqDiff, Nat.reduceAdd, false_and, and_false, true_and, and_true, reduceIte, nZ0, nZ1, fun a k => (jτ11 a k).1, fun a k => (jτ11 a k).2]
                          unfold w_X16_worth_369
                          try simp only [forall_eq, rII, rIJ, rIP, rJJ, rJI, rJP, rPP, rPI, rPJ, g1, g2, g3, g4, g5, g6, g7, g8, Nat.reduceEqDiff, Nat.reduceAdd, false_and, and_false, true_and, and_true, reduceIte, nZ0, nZ1, fun a k => (jτ11 a k).1, fun a k => (jτ11 a k).2]
                          refine ih11 _ _ _ ?_ ?_ ?_ ?_
                          · exact rτ11
                          · exact fτ11
                          · (try simp only [rII, rIJ, rIP, rJJ, rJI, rJP, rPP, rPI, rPJ, g1, g2, g3, g4, g5, g6, g7, g8, Nat.reduceEqDiff, Nat.reduceAdd, false_and, and_false, true_and, and_true, reduceIte, nZ0, nZ1, fun a k => (jτ11 a k).1, fun a k => (jτ11 a k).2]) <;> (first | omega | with_reducible assumption | (unfold rng; omega) | (unfold rng; (repeat' split) <;> omega) | grind)
                          · (try simp only [rII, rIJ, rIP, rJJ, rJI, rJP, rPP, rPI, rPJ, g1, g2, g3, g4, g5, g6, g7, g8, Nat.reduceEqDiff, Nat.reduceAdd, false_and, and_false, true_and, and_true, reduceIte, nZ0, nZ1, fun a k => (jτ11 a k).1, fun a k => (jτ11 a k).2]) <;> (first | omega | with_reducible assumption | (unfold rng; omega) | (unfold rng; (repeat' split) <;> omega) | grind)
                        · rename_i hc311
                          skip
                          unfold w_X16_worth_314
                          try simp only [forall_eq, rII, rIJ, rIP, rJJ, rJI, rJP, rPP, rPI, rPJ, g1, g2, g3, g4, g5, g6, g7, g8, Nat.reduceEqDiff, Nat.reduceAdd, false_and, and_false, true_and, and_true, reduceIte, nZ0, nZ1, fun a k => (jτ11 a k).1, fun a k => (jτ11 a k).2]
                          unfold w_X16_worth_322
                          try simp only [forall_eq, rII, rIJ, rIP, rJJ, rJI, rJP, rPP, rPI, rPJ, g1, g2, g3, g4, g5, g6, g7, g8, Nat.reduceEqDiff, Nat.reduceAdd, false_and, and_false, true_and, and_true, reduceIte, nZ0, nZ1, fun a k => (jτ11 a k).1, fun a k => (jτ11 a k).2]
                          unfold w_X16_worth_369
                          try simp only [forall_eq, rII, rIJ, rIP, rJJ, rJI, rJP, rPP, rPI, rPJ, g1, g2, g3, g4, g5, g6, g7, g8, Nat.reduceEqDiff, Nat.reduceAdd, false_and, and_false, true_and, and_true, reduceIte, nZ0, nZ1, fun a k => (jτ11 a k).1, fun a k => (jτ11 a k).2]
                          refine ih11 _ _ _ ?_ ?_ ?_ ?_
                          · exact rτ11
                          · exact fτ11
                          · (try simp only [rII, rIJ, rIP, rJJ, rJI, rJP, rPP, rPI, rPJ, g1, g2, g3, g4, g5, g6, g7, g8, Nat.reduceEqDiff, Nat.reduceAdd, false_and, and_false, true_and, and_true, reduceIte, nZ0, nZ1, fun a k => (jτ11 a k).1, fun a k => (jτ11 a k).2]) <;> (first | omega | with_reducible assumption | (unfold rng; omega) | (unfold rng; (repeat' split) <;> omega) | grind)
                          · (try simp only [rII, rIJ, rIP, rJJ, rJI, rJP, rPP, rPI, rPJ, g1, g2, g3, g4, g5, g6, g7, g8, Nat.reduceEqDiff, Nat.reduceAdd, false_and, and_false, true_and, and_true, reduceIte, nZ0, nZ1, fun a k => (jτ11 a k).1, fun a k => (jτ11 a k).2]) <;> (first | omega | with_reducible assumption | (unfold rng; omega) | (unfold rng; (repeat' split) <;> omega) | grind)
                      · rw [if_neg hc53_14]
                        by_cases hc53_15 : (gI σ (jx ja 15) v8.toNat) = 15
                        · rw [if_pos hc53_15]
                          unfold w_X16_worth_327
                          try simp only [forall_eq, rII, rIJ, rIP, rJJ, rJI, rJP, rPP, rPI, rPJ, g1, g2, g3, g4, g5, g6, g7, g8, Nat.reduceEqDiff, Nat.reduceAdd, false_and, and_false, true_and, and_true, reduceIte, nZ0, nZ1, fun a k => (jτ11 a k).1, fun a k => (jτ11 a k).2]
                          unfold w_X16_worth_369
                          try simp only [forall_eq, rII, rIJ, rIP, rJJ, rJI, rJP, rPP, rPI, rPJ, g1, g2, g3, g4, g5, g6, g7, g8, Nat.reduceEqDiff, Nat.reduceAdd, false_and, and_false, true_and, and_true, reduceIte, nZ0, nZ1, fun a k => (jτ11 a k).1, fun a k => (jτ11 a k).2]
                          refine ih11 _ _ _ ?_ ?_ ?_ ?_
                          · exact rτ11
                          · exact fτ11
                          · (try simp only [rII, rIJ, rIP, rJJ, rJI, rJP, rPP, rPI, rPJ, g1, g2, g3, g4, g5, g6, g7, g8, Nat.reduceEqDiff, Nat.reduceAdd, false_and, and_false, true_and, and_true, reduceIte, nZ0, nZ1, fun a k => (jτ11 a k).1, fun a k => (jτ11 a k).2]) <;> (first | omega | with_reducible assumption | (unfold rng; omega) | (unfold rng; (repeat' split) <;> omega) | grind)
                          · (try simp only [rII, rIJ, rIP, rJJ, rJI, rJP, rPP, rPI, rPJ, g1, g2, g3, g4, g5, g6, g7, g8, Nat.reduceEqDiff, Nat.reduceAdd, false_and, and_false, true_and, and_true, reduceIte, nZ0, nZ1, fun a k => (jτ11 a k).1, fun a k => (jτ11 a k).2]) <;> (first | omega | with_reducible assumption | (unfold rng; omega) | (unfold rng; (repeat' split) <;> omega) | grind)
                        · rw [if_neg hc53_15]
                          by_cases hc53_16 : (gI σ (jx ja 15) v8.toNat) = 16
                          · rw [if_pos hc53_16]
                            unfold w_X16_worth_240
                            try simp only [forall_eq, rII, rIJ, rIP, rJJ, rJI, rJP, rPP, rPI, rPJ, g1, g2, g3, g4, g5, g6, g7, g8, Nat.reduceEqDiff, Nat.reduceAdd, false_and, and_false, true_and, and_true, reduceIte, nZ0, nZ1, fun a k => (jτ11 a k).1, fun a k => (jτ11 a k).2]
                            refine ⟨by (first | omega | with_reducible assumption | (unfold rng; omega) | (unfold rng; (repeat' split) <;> omega) | grind), ?_⟩
                            refine ⟨by (first | omega | with_reducible assumption | (unfold rng; omega) | (unfold rng; (repeat' split) <;> omega) | grind), ?_⟩
                            refine ⟨by (first | omega | with_reducible assumption | (unfold rng; omega) | (unfold rng; (repeat' split) <;> omega) | grind), ?_⟩
                            split
                            · rename_i hc259
                              skip
                              unfold w_X16_worth_266
                              try simp only [forall_eq, rII, rIJ, rIP, rJJ, rJI, rJP, rPP, rPI, rPJ, g1, g2, g3, g4, g5, g6, g7, g8, Nat.reduceEqDiff, Nat.reduceAdd, false_and, and_false, true_and, and_true, reduceIte, nZ0, nZ1, fun a k => (jτ11 a k).1, fun a k => (jτ11 a k).2]
                              unfold w_X16_worth_267
                              try simp only [forall_eq, rII, rIJ, rIP, rJJ, rJI, rJP, rPP, rPI, rPJ, g1, g2, g3, g4, g5, g6, g7, g8, Nat.reduceEqDiff, Nat.reduceAdd, false_and, and_false, true_and, and_true, reduceIte, nZ0, nZ1, fun a k => (jτ11 a k).1, fun a k => (jτ11 a k).2]
                              refine ⟨by (first | omega | with_reducible assumption | (unfold rng; omega) | (unfold rng; (repeat' split) <;> omega) | grind), ?_⟩
                              unfold w_X16_worth_369
                              try simp only [forall_eq, rII, rIJ, rIP, rJJ, rJI, rJP, rPP, rPI, rPJ, g1, g2, g3, g4, g5, g6, g7, g8, Nat.reduceEqDiff, Nat.reduceAdd, false_and, and_false, true_and, and_true, reduceIte, nZ0, nZ1, fun a k => (jτ11 a k).1, fun a k => (jτ11 a k).2]
                              refine ih11 _ _ _ ?_ ?_ ?_ ?_
                              · refine Rg.aJ g ?_ (by simp only [rlT]; first | with_reducible assumption | omega | exact Int64.toInt_le _ | (rw [Int64.toInt_ofInt_of_le (by omega) (by omega)]; omega) | grind); exact rτ11
                              · refine Fr.aJ g ?_ (by decide); exact fτ11
                              · (try simp only [rII, rIJ, rIP, rJJ, rJI, rJP, rPP, rPI, rPJ, g1, g2, g3, g4, g5, g6, g7, g8, Nat.reduceEqDiff, Nat.reduceAdd, false_and, and_false, true_and, and_true, reduceIte, nZ0, nZ1, fun a k => (jτ11 a k).1, fun a k => (jτ11 a k).2]) <;> (first | omega | with_reducible assumption | (unfold rng; omega) | (unfold rng; (repeat' split) <;> omega) | grind)
                              · (try simp only [rII, rIJ, rIP, rJJ, rJI, rJP, rPP, rPI, rPJ, g1, g2, g3, g4, g5, g6, g7, g8, Nat.reduceEqDiff, Nat.reduceAdd, false_and, and_false, true_and, and_true, reduceIte, nZ0, nZ1, fun a k => (jτ11 a k).1, fun a k => (jτ11 a k).2]) <;> (first | omega | with_reducible assumption | (unfold rng; omega) | (unfold rng; (repeat' split) <;> omega) | grind)
                            · rename_i hc259
                              skip
                              unfold w_X16_worth_262
                              try simp only [forall_eq, rII, rIJ, rIP, rJJ, rJI, rJP, rPP, rPI, rPJ, g1, g2, g3, g4, g5, g6, g7, g8, Nat.reduceEqDiff, Nat.reduceAdd, false_and, and_false, true_and, and_true, reduceIte, nZ0, nZ1, fun a k => (jτ11 a k).1, fun a k => (jτ11 a k).2]
                              unfold w_X16_worth_267
                              try simp only [forall_eq, rII, rIJ, rIP, rJJ, rJI, rJP, rPP, rPI, rPJ, g1, g2, g3, g4, g5, g6, g7, g8, Nat.reduceEqDiff, Nat.reduceAdd, false_and, and_false, true_and, and_true, reduceIte, nZ0, nZ1, fun a k => (jτ11 a k).1, fun a k => (jτ11 a k).2]
                              refine ⟨by (first | omega | with_reducible assumption | (unfold rng; omega) | (unfold rng; (repeat' split) <;> omega) | grind), ?_⟩
                              unfold w_X16_worth_369
                              try simp only [forall_eq, rII, rIJ, rIP, rJJ, rJI, rJP, rPP, rPI, rPJ, g1, g2, g3, g4, g5, g6, g7, g8, Nat.reduceEqDiff, Nat.reduceAdd, false_and, and_false, true_and, and_true, reduceIte, nZ0, nZ1, fun a k => (jτ11 a k).1, fun a k => (jτ11 a k).2]
                              refine ih11 _ _ _ ?_ ?_ ?_ ?_
                              · refine Rg.aJ g ?_ (by simp only [rlT]; first | with_reducible assumption | omega | exact Int64.toInt_le _ | (rw [Int64.toInt_ofInt_of_le (by omega) (by omega)]; omega) | grind); exact rτ11
                              · refine Fr.aJ g ?_ (by decide); exact fτ11
                              · (try simp only [rII, rIJ, rIP, rJJ, rJI, rJP, rPP, rPI, rPJ, g1, g2, g3, g4, g5, g6, g7, g8, Nat.reduceEqDiff, Nat.reduceAdd, false_and, and_false, true_and, and_true, reduceIte, nZ0, nZ1, fun a k => (jτ11 a k).1, fun a k => (jτ11 a k).2]) <;> (first | omega | with_reducible assumption | (unfold rng; omega) | (unfold rng; (repeat' split) <;> omega) | grind)
                              · (try simp only [rII, rIJ, rIP, rJJ, rJI, rJP, rPP, rPI, rPJ, g1, g2, g3, g4, g5, g6, g7, g8, Nat.reduceEqDiff, Nat.reduceAdd, false_and, and_false, true_and, and_true, reduceIte, nZ0, nZ1, fun a k => (jτ11 a k).1, fun a k => (jτ11 a k).2]) <;> (first | omega | with_reducible assumption | (unfold rng; omega) | (unfold rng; (repeat' split) <;> omega) | grind)
                          · rw [if_neg hc53_16]
                            unfold w_X16_worth_335
                            try simp only [forall_eq, rII, rIJ, rIP, rJJ, rJI, rJP, rPP, rPI, rPJ, g1, g2, g3, g4, g5, g6, g7, g8, Nat.reduceEqDiff, Nat.reduceAdd, false_and, and_false, true_and, and_true, reduceIte, nZ0, nZ1, fun a k => (jτ11 a k).1, fun a k => (jτ11 a k).2]
                            refine ⟨by (first | omega | with_reducible assumption | (unfold rng; omega) | (unfold rng; (repeat' split) <;> omega) | grind), ?_⟩
                            refine ⟨by (first | omega | with_reducible assumption | (unfold rng; omega) | (unfold rng; (repeat' split) <;> omega) | grind), ?_⟩
                            refine ⟨by (first | omega | with_reducible assumption | (unfold rng; omega) | (unfold rng; (repeat' split) <;> omega) | grind), ?_⟩
                            refine ⟨by (first | omega | with_reducible assumption | (unfold rng; omega) | (unfold rng; (repeat' split) <;> omega) | grind), ?_⟩
                            refine ⟨by (first | omega | with_reducible assumption | (unfold rng; omega) | (unfold rng; (repeat' split) <;> omega) | grind), ?_⟩
                            refine s_X16_two g rτ11 (by (try simp only [rII, rIJ, rIP, rJJ, rJI, rJP, rPP, rPI, rPJ, g1, g2, g3, g4, g5, g6, g7, g8, Nat.reduceEqDiff, Nat.reduceAdd, false_and, and_false, true_and, and_true, reduceIte, nZ0, nZ1, fun a k => (jτ11 a k).1, fun a k => (jτ11 a k).2]) <;> (first | omega | with_reducible assumption | (unfold rng; omega) | (unfold rng; (repeat' split) <;> omega) | grind)) (fun σ45 r46 rσ45 fc p5 => ?_)
                            have fσ45 : Fr ra jx rm [20] [21] σ σ45 := Fr.tr fτ11 (Fr.mor (fc) (by decide) (by decide))
                            have jσ45 := fσ45.2.2.1
                            try simp only [forall_eq, rII, rIJ, rIP, rJJ, rJI, rJP, rPP, rPI, rPJ, g1, g2, g3, g4, g5, g6, g7, g8, Nat.reduceEqDiff, Nat.reduceAdd, false_and, and_false, true_and, and_true, reduceIte, nZ0, nZ1, fun a k => (jσ45 a k).1, fun a k => (jσ45 a k).2]
                            refine ⟨by (first | omega | with_reducible assumption | (unfold rng; omega) | (unfold rng; (repeat' split) <;> omega) | grind), ?_⟩
                            unfold w_X16_worth_369
                            try simp only [forall_eq, rII, rIJ, rIP, rJJ, rJI, rJP, rPP, rPI, rPJ, g1, g2, g3, g4, g5, g6, g7, g8, Nat.reduceEqDiff, Nat.reduceAdd, false_and, and_false, true_and, and_true, reduceIte, nZ0, nZ1, fun a k => (jσ45 a k).1, fun a k => (jσ45 a k).2]
                            refine ih11 _ _ _ ?_ ?_ ?_ ?_
                            · refine Rg.aJ g ?_ (by simp only [rlT]; first | with_reducible assumption | omega | exact Int64.toInt_le _ | (rw [Int64.toInt_ofInt_of_le (by omega) (by omega)]; omega) | grind); exact rσ45
                            · refine Fr.aJ g ?_ (by decide); exact fσ45
                            · (try simp only [rII, rIJ, rIP, rJJ, rJI, rJP, rPP, rPI, rPJ, g1, g2, g3, g4, g5, g6, g7, g8, Nat.reduceEqDiff, Nat.reduceAdd, false_and, and_false, true_and, and_true, reduceIte, nZ0, nZ1, fun a k => (jσ45 a k).1, fun a k => (jσ45 a k).2]) <;> (first | omega | with_reducible assumption | (unfold rng; omega) | (unfold rng; (repeat' split) <;> omega) | grind)
                            · (try simp only [rII, rIJ, rIP, rJJ, rJI, rJP, rPP, rPI, rPJ, g1, g2, g3, g4, g5, g6, g7, g8, Nat.reduceEqDiff, Nat.reduceAdd, false_and, and_false, true_and, and_true, reduceIte, nZ0, nZ1, fun a k => (jσ45 a k).1, fun a k => (jσ45 a k).2]) <;> (first | omega | with_reducible assumption | (unfold rng; omega) | (unfold rng; (repeat' split) <;> omega) | grind)
  refine ⟨_, L11 _ _ _ _ ?_ ?_ ?_ (Nat.lt_succ_self _)⟩
  · refine Rg.sI g ?_ (by simp only [rgS]; first | with_reducible exact nZ_rng _ | with_reducible exact nB_rng _ | with_reducible exact wr_rng _ | with_reducible exact i32any _ | (first | omega | with_reducible assumption | (unfold rng; omega) | (unfold rng; (repeat' split) <;> omega) | grind)); exact rσ
  · refine Fr.sI g ?_ (by decide); exact fσ
  · (try simp only [rII, rIJ, rIP, rJJ, rJI, rJP, rPP, rPI, rPJ, g1, g2, g3, g4, g5, g6, g7, g8, Nat.reduceEqDiff, Nat.reduceAdd, false_and, and_false, true_and, and_true, reduceIte, nZ0, nZ1]) <;> (first | omega | with_reducible assumption | (unfold rng; omega) | (unfold rng; (repeat' split) <;> omega) | grind)

set_option maxHeartbeats 2000000 in
theorem s_X16_weigh {ra : Nat → Nat} {jx : Nat → Nat → Nat} {rm : Nat} {ja : Nat} (g : Geo ra jx rm) {σ : Sg} {v1 : Int} {v2 : Int} {v3 : Int64} (rσ : Rg ra jx rm σ) (hj : gP σ rm 17 = some ja) (hja : ja = ra 15 ∨ ja = ra 16) (h1 : 0 ≤ v1 ∧ v1 < 64) (h2 : 0 ≤ v2 ∧ v2 < 16) (hvs : ∀ k, 0 ≤ k → k < gI σ (jx ja 12) v2.toNat → gI σ (jx ja 14) (8 * v2 + k).toNat ≠ 0 → PO jx ja σ (gI σ (jx ja 13) (8 * v2 + k).toNat)) {Q : Sg → Int → Prop} {X : Sg → String → Prop} (hQ : ∀ (σ' : Sg) (r : Int), Rg ra jx rm σ' → Fr ra jx rm [20, 42, 82] [21] σ σ' → (r = 0 ∨ r = 1) → Q σ' r) : wp_X16_weigh ra jx rm v1 v2 v3 σ Q X := by
  obtain ⟨g1, g2, g3, g4, g5, g6, g7, g8⟩ := id g
  have fσ : Fr ra jx rm [20, 42, 82] [21] σ σ := Fr.rf
  unfold wp_X16_weigh
  unfold w_X16_weigh_0
  try simp only [forall_eq, rII, rIJ, rIP, rJJ, rJI, rJP, rPP, rPI, rPJ, g1, g2, g3, g4, g5, g6, g7, g8, Nat.reduceEqDiff, Nat.reduceAdd, false_and, and_false, true_and, and_true, reduceIte, nZ0, nZ1]
  have L3 : ∀ (fu3 : Nat) (τ3 : Sg) (v5 : Int), Rg ra jx rm τ3 → Fr ra jx rm [20, 42, 82] [21] σ τ3 → (0 ≤ v5 ∧ v5 ≤ 8) → ((8 - v5).toNat) < fu3 → wl_X16_weigh_3 ra jx rm Q X fu3 τ3 v1 v2 v3 v5 := by
    intro fu3
    induction fu3 with
    | zero => intro τ3 _ _ _ _ h9; omega
    | succ fu3 ih3 =>
      intro τ3 v5 rτ3 fτ3 hi3 hm3
      unfold wl_X16_weigh_3
      have jτ3 := fτ3.2.2.1
      have pτ3 := fτ3.2.2.2
      unfold w_X16_weigh_3
      try simp only [forall_eq, rII, rIJ, rIP, rJJ, rJI, rJP, rPP, rPI, rPJ, g1, g2, g3, g4, g5, g6, g7, g8, Nat.reduceEqDiff, Nat.reduceAdd, false_and, and_false, true_and, and_true, reduceIte, nZ0, nZ1, fun a k => (jτ3 a k).1, fun a k => (jτ3 a k).2, pτ3]
      split
      · rename_i hc7
        skip
        unfold w_X16_weigh_24
        try simp only [forall_eq, rII, rIJ, rIP, rJJ, rJI, rJP, rPP, rPI, rPJ, g1, g2, g3, g4, g5, g6, g7, g8, Nat.reduceEqDiff, Nat.reduceAdd, false_and, and_false, true_and, and_true, reduceIte, nZ0, nZ1, fun a k => (jτ3 a k).1, fun a k => (jτ3 a k).2, pτ3]
        have q1 := rσ.2.2.1 ja 12 (v2.toNat); simp only [rgJ] at q1
        have L27 : ∀ (fu27 : Nat) (τ27 : Sg) (v5 : Int), Rg ra jx rm τ27 → Fr ra jx rm [20, 42, 82] [21] σ τ27 → (0 ≤ v5 ∧ v5 ≤ (gI σ (jx ja 12) v2.toNat)) → (((gI σ (jx ja 12) v2.toNat) - v5).toNat) < fu27 → wl_X16_weigh_27 ra jx rm Q X fu27 τ27 v1 v2 v3 v5 := by
          intro fu27
          induction fu27 with
          | zero => intro τ27 _ _ _ _ h9; omega
          | succ fu27 ih27 =>
            intro τ27 v5 rτ27 fτ27 hi27 hm27
            unfold wl_X16_weigh_27
            have jτ27 := fτ27.2.2.1
            have pτ27 := fτ27.2.2.2
            unfold w_X16_weigh_27
            try simp only [forall_eq, rII, rIJ, rIP, rJJ, rJI, rJP, rPP, rPI, rPJ, g1, g2, g3, g4, g5, g6, g7, g8, Nat.reduceEqDiff, Nat.reduceAdd, false_and, and_false, true_and, and_true, reduceIte, nZ0, nZ1, fun a k => (jτ27 a k).1, fun a k => (jτ27 a k).2, pτ27]
            refine ⟨ja, by exact hj, hja, ?_⟩
            refine ⟨by (first | omega | with_reducible assumption | (unfold rng; omega) | (unfold rng; (repeat' split) <;> omega) | grind), ?_⟩
            split
            · rename_i hc38
              skip
              unfold w_X16_weigh_127
              try simp only [forall_eq, rII, rIJ, rIP, rJJ, rJI, rJP, rPP, rPI, rPJ, g1, g2, g3, g4, g5, g6, g7, g8, Nat.reduceEqDiff, Nat.reduceAdd, false_and, and_false, true_and, and_true, reduceIte, nZ0, nZ1, fun a k => (jτ27 a k).1, fun a k => (jτ27 a k).2, pτ27]
              refine hQ _ _ ?_ ?_ ?_
              · exact rτ27
              · exact fτ27
              · (try simp only [rII, rIJ, rIP, rJJ, rJI, rJP, rPP, rPI, rPJ, g1, g2, g3, g4, g5, g6, g7, g8, Nat.reduceEqDiff, Nat.reduceAdd, false_and, and_false, true_and, and_true, reduceIte, nZ0, nZ1, fun a k => (jτ27 a k).1, fun a k => (jτ27 a k).2, pτ27]) <;> (first | omega | with_reducible assumption | (unfold rng; omega) | (unfold rng; (repeat' split) <;> omega) | grind)
            · rename_i hc38
              skip
              unfold w_X16_weigh_41
              try simp only [forall_eq, rII, rIJ, rIP, rJJ, rJI, rJP, rPP, rPI, rPJ, g1, g2, g3, g4, g5, g6, g7, g8, Nat.reduceEqDiff, Nat.reduceAdd, false_and, and_false, true_and, and_true, reduceIte, nZ0, nZ1, fun a k => (jτ27 a k).1, fun a k => (jτ27 a k).2, pτ27]
              refine ⟨ja, by exact hj, hja, ?_⟩
              refine ⟨by (first | omega | with_reducible assumption | (unfold rng; omega) | (unfold rng; (repeat' split) <;> omega) | grind), ?_⟩
              refine ⟨by (first | omega | with_reducible assumption | (unfold rng; omega) | (unfold rng; (repeat' split) <;> omega) | grind), ?_⟩
              refine ⟨by (first | omega | with_reducible assumption | (unfold rng; omega) | (unfold rng; (repeat' split) <;> omega) | grind), ?_⟩
              have q2 := rσ.2.2.1 ja 14 (((8 * v2) + v5).toNat); simp only [rgJ] at q2
              split
              · rename_i hc59
                skip
                unfold w_X16_weigh_112
                try simp only [forall_eq, rII, rIJ, rIP, rJJ, rJI, rJP, rPP, rPI, rPJ, g1, g2, g3, g4, g5, g6, g7, g8, Nat.reduceEqDiff, Nat.reduceAdd, false_and, and_false, true_and, and_true, reduceIte, nZ0, nZ1, fun a k => (jτ27 a k).1, fun a k => (jτ27 a k).2, pτ27]
                refine ⟨by (first | omega | with_reducible assumption | (unfold rng; omega) | (unfold rng; (repeat' split) <;> omega) | grind), ?_⟩
                refine ⟨by (first | omega | with_reducible assumption | (unfold rng; omega) | (unfold rng; (repeat' split) <;> omega) | grind), ?_⟩
                refine ih27 _ _ ?_ ?_ ?_ ?_
                · refine Rg.aJ g ?_ (by simp only [rlT]; first | with_reducible assumption | omega | exact Int64.toInt_le _ | (rw [Int64.toInt_ofInt_of_le (by omega) (by omega)]; omega) | grind); exact rτ27
                · refine Fr.aJ g ?_ (by decide); exact fτ27
                · (try simp only [rII, rIJ, rIP, rJJ, rJI, rJP, rPP, rPI, rPJ, g1, g2, g3, g4, g5, g6, g7, g8, Nat.reduceEqDiff, Nat.reduceAdd, false_and, and_false, true_and, and_true, reduceIte, nZ0, nZ1, fun a k => (jτ27 a k).1, fun a k => (jτ27 a k).2, pτ27]) <;> (first | omega | with_reducible assumption | (unfold rng; omega) | (unfold rng; (repeat' split) <;> omega) | grind)
                · (try simp only [rII, rIJ, rIP, rJJ, rJI, rJP, rPP, rPI, rPJ, g1, g2, g3, g4, g5, g6, g7, g8, Nat.reduceEqDiff, Nat.reduceAdd, false_and, and_false, true_and, and_true, reduceIte, nZ0, nZ1, fun a k => (jτ27 a k).1, fun a k => (jτ27 a k).2, pτ27]) <;> (first | omega | with_reducible assumption | (unfold rng; omega) | (unfold rng; (repeat' split) <;> omega) | grind)
              · rename_i hc59
                skip
                unfold w_X16_weigh_62
                try simp only [forall_eq, rII, rIJ, rIP, rJJ, rJI, rJP, rPP, rPI, rPJ, g1, g2, g3, g4, g5, g6, g7, g8, Nat.reduceEqDiff, Nat.reduceAdd, false_and, and_false, true_and, and_true, reduceIte, nZ0, nZ1, fun a k => (jτ27 a k).1, fun a k => (jτ27 a k).2, pτ27]
                refine ⟨ja, by exact hj, hja, ?_⟩
                refine ⟨by (first | omega | with_reducible assumption | (unfold rng; omega) | (unfold rng; (repeat' split) <;> omega) | grind), ?_⟩
                refine ⟨by (first | omega | with_reducible assumption | (unfold rng; omega) | (unfold rng; (repeat' split) <;> omega) | grind), ?_⟩
                refine ⟨by (first | omega | with_reducible assumption | (unfold rng; omega) | (unfold rng; (repeat' split) <;> omega) | grind), ?_⟩
                have q3 := rσ.2.2.1 ja 13 (((8 * v2) + v5).toNat); simp only [rgJ] at q3
                refine s_X16_worth (b5 := (ra 81)) (n5 := 8) g rτ27 rfl (Or.inl ⟨81, rfl, by decide⟩) (by first | exact hj | (rw [fτ27.2.2.2]; exact hj)) hja (by (try simp only [rII, rIJ, rIP, rJJ, rJI, rJP, rPP, rPI, rPJ, g1, g2, g3, g4, g5, g6, g7, g8, Nat.reduceEqDiff, Nat.reduceAdd, false_and, and_false, true_and, and_true, reduceIte, nZ0, nZ1, fun a k => (jτ27 a k).1, fun a k => (jτ27 a k).2, pτ27]) <;> exact PO.fr (hvs v5 (by omega) (by omega) (by assumption)) hja fτ27 (by decide)) (by (try simp only [rII, rIJ, rIP, rJJ, rJI, rJP, rPP, rPI, rPJ, g1, g2, g3, g4, g5, g6, g7, g8, Nat.reduceEqDiff, Nat.reduceAdd, false_and, and_false, true_and, and_true, reduceIte, nZ0, nZ1, fun a k => (jτ27 a k).1, fun a k => (jτ27 a k).2, pτ27]) <;> (first | omega | with_reducible assumption | (unfold rng; omega) | (unfold rng; (repeat' split) <;> omega) | grind)) (by (try simp only [rII, rIJ, rIP, rJJ, rJI, rJP, rPP, rPI, rPJ, g1, g2, g3, g4, g5, g6, g7, g8, Nat.reduceEqDiff, Nat.reduceAdd, false_and, and_false, true_and, and_true, reduceIte, nZ0, nZ1, fun a k => (jτ27 a k).1, fun a k => (jτ27 a k).2, pτ27]) <;> (first | omega | with_reducible assumption | (unfold rng; omega) | (unfold rng; (repeat' split) <;> omega) | grind)) (fun σ21 r22 rσ21 fc p4 => ?_)
                have fσ21 : Fr ra jx rm [20, 42, 82] [21] σ σ21 := Fr.tr fτ27 (Fr.mor (fc) (by decide) (by decide))
                have jσ21 := fσ21.2.2.1
                have pσ21 := fσ21.2.2.2
                try simp only [forall_eq, rII, rIJ, rIP, rJJ, rJI, rJP, rPP, rPI, rPJ, g1, g2, g3, g4, g5, g6, g7, g8, Nat.reduceEqDiff, Nat.reduceAdd, false_and, and_false, true_and, and_true, reduceIte, nZ0, nZ1, fun a k => (jσ21 a k).1, fun a k => (jσ21 a k).2, pσ21]
                have q5 := rσ21.2.1 21; simp only [rgS] at q5
                split
                · rename_i hc97
                  skip
                  unfold w_X16_weigh_112
                  try simp only [forall_eq, rII, rIJ, rIP, rJJ, rJI, rJP, rPP, rPI, rPJ, g1, g2, g3, g4, g5, g6, g7, g8, Nat.reduceEqDiff, Nat.reduceAdd, false_and, and_false, true_and, and_true, reduceIte, nZ0, nZ1, fun a k => (jσ21 a k).1, fun a k => (jσ21 a k).2, pσ21]
                  refine ⟨by (first | omega | with_reducible assumption | (unfold rng; omega) | (unfold rng; (repeat' split) <;> omega) | grind), ?_⟩
                  refine ⟨by (first | omega | with_reducible assumption | (unfold rng; omega) | (unfold rng; (repeat' split) <;> omega) | grind), ?_⟩
                  refine ih27 _ _ ?_ ?_ ?_ ?_
                  · refine Rg.aJ g ?_ (by simp only [rlT]; first | with_reducible assumption | omega | exact Int64.toInt_le _ | (rw [Int64.toInt_ofInt_of_le (by omega) (by omega)]; omega) | grind); exact rσ21
                  · refine Fr.aJ g ?_ (by decide); exact fσ21
                  · (try simp only [rII, rIJ, rIP, rJJ, rJI, rJP, rPP, rPI, rPJ, g1, g2, g3, g4, g5, g6, g7, g8, Nat.reduceEqDiff, Nat.reduceAdd, false_and, and_false, true_and, and_true, reduceIte, nZ0, nZ1, fun a k => (jσ21 a k).1, fun a k => (jσ21 a k).2, pσ21]) <;> (first | omega | with_reducible assumption | (unfold rng; omega) | (unfold rng; (repeat' split) <;> omega) | grind)
                  · (try simp only [rII, rIJ, rIP, rJJ, rJI, rJP, rPP, rPI, rPJ, g1, g2, g3, g4, g5, g6, g7, g8, Nat.reduceEqDiff, Nat.reduceAdd, false_and, and_false, true_and, and_true, reduceIte, nZ0, nZ1, fun a k => (jσ21 a k).1, fun a k => (jσ21 a k).2, pσ21]) <;> (first | omega | with_reducible assumption | (unfold rng; omega) | (unfold rng; (repeat' split) <;> omega) | grind)
                · rename_i hc97
                  skip
                  unfold w_X16_weigh_100
                  try simp only [forall_eq, rII, rIJ, rIP, rJJ, rJI, rJP, rPP, rPI, rPJ, g1, g2, g3, g4, g5, g6, g7, g8, Nat.reduceEqDiff, Nat.reduceAdd, false_and, and_false, true_and, and_true, reduceIte, nZ0, nZ1, fun a k => (jσ21 a k).1, fun a k => (jσ21 a k).2, pσ21]
                  refine ⟨by (first | omega | with_reducible assumption | (unfold rng; omega) | (unfold rng; (repeat' split) <;> omega) | grind), ?_⟩
                  refine ⟨by (first | omega | with_reducible assumption | (unfold rng; omega) | (unfold rng; (repeat' split) <;> omega) | grind), ?_⟩
                  have q6 := rσ21.1 42 (v1.toNat); simp only [rgT] at q6
                  refine hQ _ _ ?_ ?_ ?_
                  · refine Rg.aI g ?_ (by simp only [rgT]; first | with_reducible exact nZ_rng _ | with_reducible exact nB_rng _ | with_reducible exact wr_rng _ | with_reducible exact i32any _ | (first | omega | with_reducible assumption | (unfold rng; omega) | (unfold rng; (repeat' split) <;> omega) | grind)); exact rσ21
                  · refine Fr.aI g ?_ (by decide); exact fσ21
                  · (try simp only [rII, rIJ, rIP, rJJ, rJI, rJP, rPP, rPI, rPJ, g1, g2, g3, g4, g5, g6, g7, g8, Nat.reduceEqDiff, Nat.reduceAdd, false_and, and_false, true_and, and_true, reduceIte, nZ0, nZ1, fun a k => (jσ21 a k).1, fun a k => (jσ21 a k).2, pσ21]) <;> (first | omega | with_reducible assumption | (unfold rng; omega) | (unfold rng; (repeat' split) <;> omega) | grind)
        refine ⟨_, L27 _ _ _ ?_ ?_ ?_ (Nat.lt_succ_self _)⟩
        · exact rτ3
        · exact fτ3
        · (try simp only [rII, rIJ, rIP, rJJ, rJI, rJP, rPP, rPI, rPJ, g1, g2, g3, g4, g5, g6, g7, g8, Nat.reduceEqDiff, Nat.reduceAdd, false_and, and_false, true_and, and_true, reduceIte, nZ0, nZ1, fun a k => (jτ3 a k).1, fun a k => (jτ3 a k).2, pτ3]) <;> (first | omega | with_reducible assumption | (unfold rng; omega) | (unfold rng; (repeat' split) <;> omega) | grind)
      · rename_i hc7
        skip
        unfold w_X16_weigh_10
        try simp only [forall_eq, rII, rIJ, rIP, rJJ, rJI, rJP, rPP, rPI, rPJ, g1, g2, g3, g4, g5, g6, g7, g8, Nat.reduceEqDiff, Nat.reduceAdd, false_and, and_false, true_and, and_true, reduceIte, nZ0, nZ1, fun a k => (jτ3 a k).1, fun a k => (jτ3 a k).2, pτ3]
        refine ⟨by (first | omega | with_reducible assumption | (unfold rng; omega) | (unfold rng; (repeat' split) <;> omega) | grind), ?_⟩
        refine ⟨by (first | omega | with_reducible assumption | (unfold rng; omega) | (unfold rng; (repeat' split) <;> omega) | grind), ?_⟩
        refine ih3 _ _ ?_ ?_ ?_ ?_
        · refine Rg.aJ g ?_ (by simp only [rlT]; first | with_reducible assumption | omega | exact Int64.toInt_le _ | (rw [Int64.toInt_ofInt_of_le (by omega) (by omega)]; omega) | grind); exact rτ3
        · refine Fr.aJ g ?_ (by decide); exact fτ3
        · (try simp only [rII, rIJ, rIP, rJJ, rJI, rJP, rPP, rPI, rPJ, g1, g2, g3, g4, g5, g6, g7, g8, Nat.reduceEqDiff, Nat.reduceAdd, false_and, and_false, true_and, and_true, reduceIte, nZ0, nZ1, fun a k => (jτ3 a k).1, fun a k => (jτ3 a k).2, pτ3]) <;> (first | omega | with_reducible assumption | (unfold rng; omega) | (unfold rng; (repeat' split) <;> omega) | grind)
        · (try simp only [rII, rIJ, rIP, rJJ, rJI, rJP, rPP, rPI, rPJ, g1, g2, g3, g4, g5, g6, g7, g8, Nat.reduceEqDiff, Nat.reduceAdd, false_and, and_false, true_and, and_true, reduceIte, nZ0, nZ1, fun a k => (jτ3 a k).1, fun a k => (jτ3 a k).2, pτ3]) <;> (first | omega | with_reducible assumption | (unfold rng; omega) | (unfold rng; (repeat' split) <;> omega) | grind)
  refine ⟨_, L3 _ _ _ ?_ ?_ ?_ (Nat.lt_succ_self _)⟩
  · exact rσ
  · exact fσ
  · (try simp only [rII, rIJ, rIP, rJJ, rJI, rJP, rPP, rPI, rPJ, g1, g2, g3, g4, g5, g6, g7, g8, Nat.reduceEqDiff, Nat.reduceAdd, false_and, and_false, true_and, and_true, reduceIte, nZ0, nZ1]) <;> (first | omega | with_reducible assumption | (unfold rng; omega) | (unfold rng; (repeat' split) <;> omega) | grind)
set_option maxHeartbeats 4000000 in
theorem s_X16_isWeighed {ra : Nat → Nat} {jx : Nat → Nat → Nat} {rm : Nat} {ja : Nat} (g : Geo ra jx rm) {σ : Sg} {v1 : Int} {v2 : Int64} (rσ : Rg ra jx rm σ) (hj : gP σ rm 17 = some ja) (hja : ja = ra 15 ∨ ja = ra 16) (h2 : 0 ≤ v1 ∧ v1 < 16) (hvs : ∀ k, 0 ≤ k → k < gI σ (jx ja 12) v1.toNat → gI σ (jx ja 14) (8 * v1 + k).toNat ≠ 0 → PO jx ja σ (gI σ (jx ja 13) (8 * v1 + k).toNat)) {Q : Sg → Int → Prop} {X : Sg → String → Prop} (hQ : ∀ (σ' : Sg) (r : Int), Rg ra jx rm σ' → Fr ra jx rm [20, 82] [21] σ σ' → (r = 0 ∨ r = 1) → Q σ' r) : wp_X16_isWeighed ra jx rm v1 v2 σ Q X := by
  obtain ⟨g1, g2, g3, g4, g5, g6, g7, g8⟩ := id g
  have fσ : Fr ra jx rm [20, 82] [21] σ σ := Fr.rf
  unfold wp_X16_isWeighed
  unfold w_X16_isWeighed_0
  try simp only [forall_eq, rII, rIJ, rIP, rJJ, rJI, rJP, rPP, rPI, rPJ, g1, g2, g3, g4, g5, g6, g7, g8, Nat.reduceEqDiff, Nat.reduceAdd, false_and, and_false, true_and, and_true, reduceIte, nZ0, nZ1]
  have L6 : ∀ (fu6 : Nat) (τ6 : Sg) (v5 : Int), Rg ra jx rm τ6 → Fr ra jx rm [20, 82] [21] σ τ6 → (0 ≤ v5 ∧ v5 ≤ 8 ∧ (1 = 0 ∨ 1 = 1)) → ((8 - v5).toNat) < fu6 → wl_X16_isWeighed_6 ra jx rm Q X fu6 τ6 v1 v2 1 v5 := by
    intro fu6
    induction fu6 with
    | zero => intro τ6 _ _ _ _ h9; omega
    | succ fu6 ih6 =>
      intro τ6 v5 rτ6 fτ6 hi6 hm6
      unfold wl_X16_isWeighed_6
      have jτ6 := fτ6.2.2.1
      have pτ6 := fτ6.2.2.2
      unfold w_X16_isWeighed_6
      try simp only [forall_eq, rII, rIJ, rIP, rJJ, rJI, rJP, rPP, rPI, rPJ, g1, g2, g3, g4, g5, g6, g7, g8, Nat.reduceEqDiff, Nat.reduceAdd, false_and, and_false, true_and, and_true, reduceIte, nZ0, nZ1, fun a k => (jτ6 a k).1, fun a k => (jτ6 a k).2, pτ6]
      split
      · rename_i hc10
        skip
        unfold w_X16_isWeighed_27
        try simp only [forall_eq, rII, rIJ, rIP, rJJ, rJI, rJP, rPP, rPI, rPJ, g1, g2, g3, g4, g5, g6, g7, g8, Nat.reduceEqDiff, Nat.reduceAdd, false_and, and_false, true_and, and_true, reduceIte, nZ0, nZ1, fun a k => (jτ6 a k).1, fun a k => (jτ6 a k).2, pτ6]
        have q1 := rσ.2.2.1 ja 12 (v1.toNat); simp only [rgJ] at q1
        have L30 : ∀ (fu30 : Nat) (τ30 : Sg) (v4 : Int) (v5 : Int), Rg ra jx rm τ30 → Fr ra jx rm [20, 82] [21] σ τ30 → (0 ≤ v5 ∧ v5 ≤ (gI σ (jx ja 12) v1.toNat) ∧ (v4 = 0 ∨ v4 = 1)) → (((gI σ (jx ja 12) v1.toNat) - v5).toNat) < fu30 → wl_X16_isWeighed_30 ra jx rm Q X fu30 τ30 v1 v2 v4 v5 := by
          intro fu30
          induction fu30 with
          | zero => intro τ30 _ _ _ _ _ h9; omega
          | succ fu30 ih30 =>
            intro τ30 v4 v5 rτ30 fτ30 hi30 hm30
            unfold wl_X16_isWeighed_30
            have jτ30 := fτ30.2.2.1
            have pτ30 := fτ30.2.2.2
            unfold w_X16_isWeighed_30
            try simp only [forall_eq, rII, rIJ, rIP, rJJ, rJI, rJP, rPP, rPI, rPJ, g1, g2, g3, g4, g5, g6, g7, g8, Nat.reduceEqDiff, Nat.reduceAdd, false_and, and_false, true_and, and_true, reduceIte, nZ0, nZ1, fun a k => (jτ30 a k).1, fun a k => (jτ30 a k).2, pτ30]
            refine ⟨ja, by exact hj, hja, ?_⟩
            refine ⟨by (first | omega | with_reducible assumption | (unfold rng; omega) | (unfold rng; (repeat' split) <;> omega) | grind), ?_⟩
            split
            · rename_i hc41
              skip
              unfold w_X16_isWeighed_146
              try simp only [forall_eq, rII, rIJ, rIP, rJJ, rJI, rJP, rPP, rPI, rPJ, g1, g2, g3, g4, g5, g6, g7, g8, Nat.reduceEqDiff, Nat.reduceAdd, false_and, and_false, true_and, and_true, reduceIte, nZ0, nZ1, fun a k => (jτ30 a k).1, fun a k => (jτ30 a k).2, pτ30]
              refine ⟨by (first | omega | with_reducible assumption | (unfold rng; omega) | (unfold rng; (repeat' split) <;> omega) | grind), ?_⟩
              refine hQ _ _ ?_ ?_ ?_
              · exact rτ30
              · exact fτ30
              · (try simp only [rII, rIJ, rIP, rJJ, rJI, rJP, rPP, rPI, rPJ, g1, g2, g3, g4, g5, g6, g7, g8, Nat.reduceEqDiff, Nat.reduceAdd, false_and, and_false, true_and, and_true, reduceIte, nZ0, nZ1, fun a k => (jτ30 a k).1, fun a k => (jτ30 a k).2, pτ30]) <;> (first | omega | with_reducible assumption | (unfold rng; omega) | (unfold rng; (repeat' split) <;> omega) | grind)
            · rename_i hc41
              skip
              unfold w_X16_isWeighed_44
              try simp only [forall_eq, rII, rIJ, rIP, rJJ, rJI, rJP, rPP, rPI, rPJ, g1, g2, g3, g4, g5, g6, g7, g8, Nat.reduceEqDiff, Nat.reduceAdd, false_and, and_false, true_and, and_true, reduceIte, nZ0, nZ1, fun a k => (jτ30 a k).1, fun a k => (jτ30 a k).2, pτ30]
              split
              · rename_i hc46
                skip
                unfold w_X16_isWeighed_146
                try simp only [forall_eq, rII, rIJ, rIP, rJJ, rJI, rJP, rPP, rPI, rPJ, g1, g2, g3, g4, g5, g6, g7, g8, Nat.reduceEqDiff, Nat.reduceAdd, false_and, and_false, true_and, and_true, reduceIte, nZ0, nZ1, fun a k => (jτ30 a k).1, fun a k => (jτ30 a k).2, pτ30]
                refine ⟨by (first | omega | with_reducible assumption | (unfold rng; omega) | (unfold rng; (repeat' split) <;> omega) | grind), ?_⟩
                refine hQ _ _ ?_ ?_ ?_
                · exact rτ30
                · exact fτ30
                · (try simp only [rII, rIJ, rIP, rJJ, rJI, rJP, rPP, rPI, rPJ, g1, g2, g3, g4, g5, g6, g7, g8, Nat.reduceEqDiff, Nat.reduceAdd, false_and, and_false, true_and, and_true, reduceIte, nZ0, nZ1, fun a k => (jτ30 a k).1, fun a k => (jτ30 a k).2, pτ30]) <;> (first | omega | with_reducible assumption | (unfold rng; omega) | (unfold rng; (repeat' split) <;> omega) | grind)
              · rename_i hc46
                skip
                unfold w_X16_isWeighed_49
                try simp only [forall_eq, rII, rIJ, rIP, rJJ, rJI, rJP, rPP, rPI, rPJ, g1, g2, g3, g4, g5, g6, g7, g8, Nat.reduceEqDiff, Nat.reduceAdd, false_and, and_false, true_and, and_true, reduceIte, nZ0, nZ1, fun a k => (jτ30 a k).1, fun a k => (jτ30 a k).2, pτ30]
                refine ⟨ja, by exact hj, hja, ?_⟩
                refine ⟨by (first | omega | with_reducible assumption | (unfold rng; omega) | (unfold rng; (repeat' split) <;> omega) | grind), ?_⟩
                refine ⟨by (first | omega | with_reducible assumption | (unfold rng; omega) | (unfold rng; (repeat' split) <;> omega) | grind), ?_⟩
                refine ⟨by (first | omega | with_reducible assumption | (unfold rng; omega) | (unfold rng; (repeat' split) <;> omega) | grind), ?_⟩
                have q2 := rσ.2.2.1 ja 14 (((8 * v1) + v5).toNat); simp only [rgJ] at q2
                split
                · rename_i hc64
                  skip
                  unfold w_X16_isWeighed_71
                  try simp only [forall_eq, rII, rIJ, rIP, rJJ, rJI, rJP, rPP, rPI, rPJ, g1, g2, g3, g4, g5, g6, g7, g8, Nat.reduceEqDiff, Nat.reduceAdd, false_and, and_false, true_and, and_true, reduceIte, nZ0, nZ1, fun a k => (jτ30 a k).1, fun a k => (jτ30 a k).2, pτ30]
                  unfold w_X16_isWeighed_72
                  try simp only [forall_eq, rII, rIJ, rIP, rJJ, rJI, rJP, rPP, rPI, rPJ, g1, g2, g3, g4, g5, g6, g7, g8, Nat.reduceEqDiff, Nat.reduceAdd, false_and, and_false, true_and, and_true, reduceIte, nZ0, nZ1, fun a k => (jτ30 a k).1, fun a k => (jτ30 a k).2, pτ30]
                  refine ⟨by (first | omega | with_reducible assumption | (unfold rng; omega) | (unfold rng; (repeat' split) <;> omega) | grind), ?_⟩
                  try rw [if_pos (by decide)]
                  unfold w_X16_isWeighed_91
                  try simp only [forall_eq, rII, rIJ, rIP, rJJ, rJI, rJP, rPP, rPI, rPJ, g1, g2, g3, g4, g5, g6, g7, g8, Nat.reduceEqDiff, Nat.reduceAdd, false_and, and_false, true_and, and_true, reduceIte, nZ0, nZ1, fun a k => (jτ30 a k).1, fun a k => (jτ30 a k).2, pτ30]
                  refine ⟨ja, by exact hj, hja, ?_⟩
                  refine ⟨by (first | omega | with_reducible assumption | (unfold rng; omega) | (unfold rng; (repeat' split) <;> omega) | grind), ?_⟩
                  refine ⟨by (first | omega | with_reducible assumption | (unfold rng; omega) | (unfold rng; (repeat' split) <;> omega) | grind), ?_⟩
                  refine ⟨by (first | omega | with_reducible assumption | (unfold rng; omega) | (unfold rng; (repeat' split) <;> omega) | grind), ?_⟩
                  have q3 := rσ.2.2.1 ja 13 (((8 * v1) + v5).toNat); simp only [rgJ] at q3
                  refine s_X16_worth (b5 := (ra 81)) (n5 := 8) g rτ30 rfl (Or.inl ⟨81, rfl, by decide⟩) (by first | exact hj | (rw [fτ30.2.2.2]; exact hj)) hja (by (try simp only [rII, rIJ, rIP, rJJ, rJI, rJP, rPP, rPI, rPJ, g1, g2, g3, g4, g5, g6, g7, g8, Nat.reduceEqDiff, Nat.reduceAdd, false_and, and_false, true_and, and_true, reduceIte, nZ0, nZ1, fun a k => (jτ30 a k).1, fun a k => (jτ30 a k).2, pτ30]) <;> exact PO.fr (hvs v5 (by omega) (by omega) (by assumption)) hja fτ30 (by decide)) (by (try simp only [rII, rIJ, rIP, rJJ, rJI, rJP, rPP, rPI, rPJ, g1, g2, g3, g4, g5, g6, g7, g8, Nat.reduceEqDiff, Nat.reduceAdd, false_and, and_false, true_and, and_true, reduceIte, nZ0, nZ1, fun a k => (jτ30 a k).1, fun a k => (jτ30 a k).2, pτ30]) <;> (first | omega | with_reducible assumption | (unfold rng; omega) | (unfold rng; (repeat' split) <;> omega) | grind)) (by (try simp only [rII, rIJ, rIP, rJJ, rJI, rJP, rPP, rPI, rPJ, g1, g2, g3, g4, g5, g6, g7, g8, Nat.reduceEqDiff, Nat.reduceAdd, false_and, and_false, true_and, and_true, reduceIte, nZ0, nZ1, fun a k => (jτ30 a k).1, fun a k => (jτ30 a k).2, pτ30]) <;> (first | omega | with_reducible assumption | (unfold rng; omega) | (unfold rng; (repeat' split) <;> omega) | grind)) (fun σ18 r19 rσ18 fc p4 => ?_)
                  have fσ18 : Fr ra jx rm [20, 82] [21] σ σ18 := Fr.tr fτ30 (Fr.mor (fc) (by decide) (by decide))
                  have jσ18 := fσ18.2.2.1
                  have pσ18 := fσ18.2.2.2
                  try simp only [forall_eq, rII, rIJ, rIP, rJJ, rJI, rJP, rPP, rPI, rPJ, g1, g2, g3, g4, g5, g6, g7, g8, Nat.reduceEqDiff, Nat.reduceAdd, false_and, and_false, true_and, and_true, reduceIte, nZ0, nZ1, fun a k => (jσ18 a k).1, fun a k => (jσ18 a k).2, pσ18]
                  unfold w_X16_isWeighed_120
                  try simp only [forall_eq, rII, rIJ, rIP, rJJ, rJI, rJP, rPP, rPI, rPJ, g1, g2, g3, g4, g5, g6, g7, g8, Nat.reduceEqDiff, Nat.reduceAdd, false_and, and_false, true_and, and_true, reduceIte, nZ0, nZ1, fun a k => (jσ18 a k).1, fun a k => (jσ18 a k).2, pσ18]
                  refine ⟨by (first | omega | with_reducible assumption | (unfold rng; omega) | (unfold rng; (repeat' split) <;> omega) | grind), ?_⟩
                  try rw [if_neg (by decide)]
                  unfold w_X16_isWeighed_126
                  try simp only [forall_eq, rII, rIJ, rIP, rJJ, rJI, rJP, rPP, rPI, rPJ, g1, g2, g3, g4, g5, g6, g7, g8, Nat.reduceEqDiff, Nat.reduceAdd, false_and, and_false, true_and, and_true, reduceIte, nZ0, nZ1, fun a k => (jσ18 a k).1, fun a k => (jσ18 a k).2, pσ18]
                  have q5 := rσ18.2.1 21; simp only [rgS] at q5
                  split
                  · rename_i hc130
                    skip
                    unfold w_X16_isWeighed_137
                    try simp only [forall_eq, rII, rIJ, rIP, rJJ, rJI, rJP, rPP, rPI, rPJ, g1, g2, g3, g4, g5, g6, g7, g8, Nat.reduceEqDiff, Nat.reduceAdd, false_and, and_false, true_and, and_true, reduceIte, nZ0, nZ1, fun a k => (jσ18 a k).1, fun a k => (jσ18 a k).2, pσ18]
                    unfold w_X16_isWeighed_138
                    try simp only [forall_eq, rII, rIJ, rIP, rJJ, rJI, rJP, rPP, rPI, rPJ, g1, g2, g3, g4, g5, g6, g7, g8, Nat.reduceEqDiff, Nat.reduceAdd, false_and, and_false, true_and, and_true, reduceIte, nZ0, nZ1, fun a k => (jσ18 a k).1, fun a k => (jσ18 a k).2, pσ18]
                    refine ⟨by (first | omega | with_reducible assumption | (unfold rng; omega) | (unfold rng; (repeat' split) <;> omega) | grind), ?_⟩
                    refine ih30 _ _ _ ?_ ?_ ?_ ?_
                    · refine Rg.aJ g ?_ (by simp only [rlT]; first | with_reducible assumption | omega | exact Int64.toInt_le _ | (rw [Int64.toInt_ofInt_of_le (by omega) (by omega)]; omega) | grind); exact rσ18
                    · refine Fr.aJ g ?_ (by decide); exact fσ18
                    · (try simp only [rII, rIJ, rIP, rJJ, rJI, rJP, rPP, rPI, rPJ, g1, g2, g3, g4, g5, g6, g7, g8, Nat.reduceEqDiff, Nat.reduceAdd, false_and, and_false, true_and, and_true, reduceIte, nZ0, nZ1, fun a k => (jσ18 a k).1, fun a k => (jσ18 a k).2, pσ18]) <;> (first | omega | with_reducible assumption | (unfold rng; omega) | (unfold rng; (repeat' split) <;> omega) | grind)
                    · (try simp only [rII, rIJ, rIP, rJJ, rJI, rJP, rPP, rPI, rPJ, g1, g2, g3, g4, g5, g6, g7, g8, Nat.reduceEqDiff, Nat.reduceAdd, false_and, and_false, true_and, and_true, reduceIte, nZ0, nZ1, fun a k => (jσ18 a k).1, fun a k => (jσ18 a k).2, pσ18]) <;> (first | omega | with_reducible assumption | (unfold rng; omega) | (unfold rng; (repeat' split) <;> omega) | grind)
                  · rename_i hc130
                    skip
                    unfold w_X16_isWeighed_133
                    try simp only [forall_eq, rII, rIJ, rIP, rJJ, rJI, rJP, rPP, rPI, rPJ, g1, g2, g3, g4, g5, g6, g7, g8, Nat.reduceEqDiff, Nat.reduceAdd, false_and, and_false, true_and, and_true, reduceIte, nZ0, nZ1, fun a k => (jσ18 a k).1, fun a k => (jσ18 a k).2, pσ18]
                    unfold w_X16_isWeighed_138
                    try simp only [forall_eq, rII, rIJ, rIP, rJJ, rJI, rJP, rPP, rPI, rPJ, g1, g2, g3, g4, g5, g6, g7, g8, Nat.reduceEqDiff, Nat.reduceAdd, false_and, and_false, true_and, and_true, reduceIte, nZ0, nZ1, fun a k => (jσ18 a k).1, fun a k => (jσ18 a k).2, pσ18]
                    refine ⟨by (first | omega | with_reducible assumption | (unfold rng; omega) | (unfold rng; (repeat' split) <;> omega) | grind), ?_⟩
                    refine ih30 _ _ _ ?_ ?_ ?_ ?_
                    · refine Rg.aJ g ?_ (by simp only [rlT]; first | with_reducible assumption | omega | exact Int64.toInt_le _ | (rw [Int64.toInt_ofInt_of_le (by omega) (by omega)]; omega) | grind); exact rσ18
                    · refine Fr.aJ g ?_ (by decide); exact fσ18
                    · (try simp only [rII, rIJ, rIP, rJJ, rJI, rJP, rPP, rPI, rPJ, g1, g2, g3, g4, g5, g6, g7, g8, Nat.reduceEqDiff, Nat.reduceAdd, false_and, and_false, true_and, and_true, reduceIte, nZ0, nZ1, fun a k => (jσ18 a k).1, fun a k => (jσ18 a k).2, pσ18]) <;> (first | omega | with_reducible assumption | (unfold rng; omega) | (unfold rng; (repeat' split) <;> omega) | grind)
                    · (try simp only [rII, rIJ, rIP, rJJ, rJI, rJP, rPP, rPI, rPJ, g1, g2, g3, g4, g5, g6, g7, g8, Nat.reduceEqDiff, Nat.reduceAdd, false_and, and_false, true_and, and_true, reduceIte, nZ0, nZ1, fun a k => (jσ18 a k).1, fun a k => (jσ18 a k).2, pσ18]) <;> (first | omega | with_reducible assumption | (unfold rng; omega) | (unfold rng; (repeat' split) <;> omega) | grind)
                · rename_i hc64
                  skip
                  unfold w_X16_isWeighed_67
                  try simp only [forall_eq, rII, rIJ, rIP, rJJ, rJI, rJP, rPP, rPI, rPJ, g1, g2, g3, g4, g5, g6, g7, g8, Nat.reduceEqDiff, Nat.reduceAdd, false_and, and_false, true_and, and_true, reduceIte, nZ0, nZ1, fun a k => (jτ30 a k).1, fun a k => (jτ30 a k).2, pτ30]
                  unfold w_X16_isWeighed_72
                  try simp only [forall_eq, rII, rIJ, rIP, rJJ, rJI, rJP, rPP, rPI, rPJ, g1, g2, g3, g4, g5, g6, g7, g8, Nat.reduceEqDiff, Nat.reduceAdd, false_and, and_false, true_and, and_true, reduceIte, nZ0, nZ1, fun a k => (jτ30 a k).1, fun a k => (jτ30 a k).2, pτ30]
                  refine ⟨by (first | omega | with_reducible assumption | (unfold rng; omega) | (unfold rng; (repeat' split) <;> omega) | grind), ?_⟩
                  try rw [if_neg (by decide)]
                  unfold w_X16_isWeighed_87
                  try simp only [forall_eq, rII, rIJ, rIP, rJJ, rJI, rJP, rPP, rPI, rPJ, g1, g2, g3, g4, g5, g6, g7, g8, Nat.reduceEqDiff, Nat.reduceAdd, false_and, and_false, true_and, and_true, reduceIte, nZ0, nZ1, fun a k => (jτ30 a k).1, fun a k => (jτ30 a k).2, pτ30]
                  unfold w_X16_isWeighed_120
                  try simp only [forall_eq, rII, rIJ, rIP, rJJ, rJI, rJP, rPP, rPI, rPJ, g1, g2, g3, g4, g5, g6, g7, g8, Nat.reduceEqDiff, Nat.reduceAdd, false_and, and_false, true_and, and_true, reduceIte, nZ0, nZ1, fun a k => (jτ30 a k).1, fun a k => (jτ30 a k).2, pτ30]
                  refine ⟨by (first | omega | with_reducible assumption | (unfold rng; omega) | (unfold rng; (repeat' split) <;> omega) | grind), ?_⟩
                  try rw [if_pos (by decide)]
                  unfold w_X16_isWeighed_133
                  try simp only [forall_eq, rII, rIJ, rIP, rJJ, rJI, rJP, rPP, rPI, rPJ, g1, g2, g3, g4, g5, g6, g7, g8, Nat.reduceEqDiff, Nat.reduceAdd, false_and, and_false, true_and, and_true, reduceIte, nZ0, nZ1, fun a k => (jτ30 a k).1, fun a k => (jτ30 a k).2, pτ30]
                  unfold w_X16_isWeighed_138
                  try simp only [forall_eq, rII, rIJ, rIP, rJJ, rJI, rJP, rPP, rPI, rPJ, g1, g2, g3, g4, g5, g6, g7, g8, Nat.reduceEqDiff, Nat.reduceAdd, false_and, and_false, true_and, and_true, reduceIte, nZ0, nZ1, fun a k => (jτ30 a k).1, fun a k => (jτ30 a k).2, pτ30]
                  refine ⟨by (first | omega | with_reducible assumption | (unfold rng; omega) | (unfold rng; (repeat' split) <;> omega) | grind), ?_⟩
                  refine ih30 _ _ _ ?_ ?_ ?_ ?_
                  · refine Rg.aJ g ?_ (by simp only [rlT]; first | with_reducible assumption | omega | exact Int64.toInt_le _ | (rw [Int64.toInt_ofInt_of_le (by omega) (by omega)]; omega) | grind); exact rτ30
                  · refine Fr.aJ g ?_ (by decide); exact fτ30
                  · (try simp only [rII, rIJ, rIP, rJJ, rJI, rJP, rPP, rPI, rPJ, g1, g2, g3, g4, g5, g6, g7, g8, Nat.reduceEqDiff, Nat.reduceAdd, false_and, and_false, true_and, and_true, reduceIte, nZ0, nZ1, fun a k => (jτ30 a k).1, fun a k => (jτ30 a k).2, pτ30]) <;> (first | omega | with_reducible assumption | (unfold rng; omega) | (unfold rng; (repeat' split) <;> omega) | grind)
                  · (try simp only [rII, rIJ, rIP, rJJ, rJI, rJP, rPP, rPI, rPJ, g1, g2, g3, g4, g5, g6, g7, g8, Nat.reduceEqDiff, Nat.reduceAdd, false_and, and_false, true_and, and_true, reduceIte, nZ0, nZ1, fun a k => (jτ30 a k).1, fun a k => (jτ30 a k).2, pτ30]) <;> (first | omega | with_reducible assumption | (unfold rng; omega) | (unfold rng; (repeat' split) <;> omega) | grind)
        refine ⟨_, L30 _ _ _ _ ?_ ?_ ?_ (Nat.lt_succ_self _)⟩
        · exact rτ6
        · exact fτ6
        · (try simp only [rII, rIJ, rIP, rJJ, rJI, rJP, rPP, rPI, rPJ, g1, g2, g3, g4, g5, g6, g7, g8, Nat.reduceEqDiff, Nat.reduceAdd, false_and, and_false, true_and, and_true, reduceIte, nZ0, nZ1, fun a k => (jτ6 a k).1, fun a k => (jτ6 a k).2, pτ6]) <;> (first | omega | with_reducible assumption | (unfold rng; omega) | (unfold rng; (repeat' split) <;> omega) | grind)
      · rename_i hc10
        skip
        unfold w_X16_isWeighed_13
        try simp only [forall_eq, rII, rIJ, rIP, rJJ, rJI, rJP, rPP, rPI, rPJ, g1, g2, g3, g4, g5, g6, g7, g8, Nat.reduceEqDiff, Nat.reduceAdd, false_and, and_false, true_and, and_true, reduceIte, nZ0, nZ1, fun a k => (jτ6 a k).1, fun a k => (jτ6 a k).2, pτ6]
        refine ⟨by (first | omega | with_reducible assumption | (unfold rng; omega) | (unfold rng; (repeat' split) <;> omega) | grind), ?_⟩
        refine ⟨by (first | omega | with_reducible assumption | (unfold rng; omega) | (unfold rng; (repeat' split) <;> omega) | grind), ?_⟩
        refine ih6 _ _ ?_ ?_ ?_ ?_
        · refine Rg.aJ g ?_ (by simp only [rlT]; first | with_reducible assumption | omega | exact Int64.toInt_le _ | (rw [Int64.toInt_ofInt_of_le (by omega) (by omega)]; omega) | grind); exact rτ6
        · refine Fr.aJ g ?_ (by decide); exact fτ6
        · (try simp only [rII, rIJ, rIP, rJJ, rJI, rJP, rPP, rPI, rPJ, g1, g2, g3, g4, g5, g6, g7, g8, Nat.reduceEqDiff, Nat.reduceAdd, false_and, and_false, true_and, and_true, reduceIte, nZ0, nZ1, fun a k => (jτ6 a k).1, fun a k => (jτ6 a k).2, pτ6]) <;> (first | omega | with_reducible assumption | (unfold rng; omega) | (unfold rng; (repeat' split) <;> omega) | grind)
        · (try simp only [rII, rIJ, rIP, rJJ, rJI, rJP, rPP, rPI, rPJ, g1, g2, g3, g4, g5, g6, g7, g8, Nat.reduceEqDiff, Nat.reduceAdd, false_and, and_false, true_and, and_true, reduceIte, nZ0, nZ1, fun a k => (jτ6 a k).1, fun a k => (jτ6 a k).2, pτ6]) <;> (first | omega | with_reducible assumption | (unfold rng; omega) | (unfold rng; (repeat' split) <;> omega) | grind)
  refine ⟨_, L6 _ _ _ ?_ ?_ ?_ (Nat.lt_succ_self _)⟩
  · exact rσ
  · exact fσ
  · (try simp only [rII, rIJ, rIP, rJJ, rJI, rJP, rPP, rPI, rPJ, g1, g2, g3, g4, g5, g6, g7, g8, Nat.reduceEqDiff, Nat.reduceAdd, false_and, and_false, true_and, and_true, reduceIte, nZ0, nZ1]) <;> (first | omega | with_reducible assumption | (unfold rng; omega) | (unfold rng; (repeat' split) <;> omega) | grind)
set_option maxHeartbeats 2000000 in
theorem s_X16_isSound {ra : Nat → Nat} {jx : Nat → Nat → Nat} {rm : Nat} {ja : Nat} (g : Geo ra jx rm) {σ : Sg} {v1 : Int} {v2 : Int64} (rσ : Rg ra jx rm σ) (hj : gP σ rm 17 = some ja) (hja : ja = ra 15 ∨ ja = ra 16) (h2 : 0 ≤ v1 ∧ v1 < 16) (hvs : ∀ k, 0 ≤ k → k < gI σ (jx ja 12) v1.toNat → PO jx ja σ (gI σ (jx ja 13) (8 * v1 + k).toNat)) {Q : Sg → Int → Prop} {X : Sg → String → Prop} (hQ : ∀ (σ' : Sg) (r : Int), Rg ra jx rm σ' → Fr ra jx rm [20] [21] σ σ' → (r = 0 ∨ r = 1) → Q σ' r) : wp_X16_isSound ra jx rm v1 v2 σ Q X := by
  obtain ⟨g1, g2, g3, g4, g5, g6, g7, g8⟩ := id g
  have fσ : Fr ra jx rm [20] [21] σ σ := Fr.rf
  unfold wp_X16_isSound
  unfold w_X16_isSound_0
  try simp only [forall_eq, rII, rIJ, rIP, rJJ, rJI, rJP, rPP, rPI, rPJ, g1, g2, g3, g4, g5, g6, g7, g8, Nat.reduceEqDiff, Nat.reduceAdd, false_and, and_false, true_and, and_true, reduceIte, nZ0, nZ1]
  have q1 := rσ.2.2.1 ja 12 (v1.toNat); simp only [rgJ] at q1
  have L6 : ∀ (fu6 : Nat) (τ6 : Sg) (v4 : Int) (v5 : Int), Rg ra jx rm τ6 → Fr ra jx rm [20] [21] σ τ6 → (0 ≤ v5 ∧ v5 ≤ (gI σ (jx ja 12) v1.toNat) ∧ (v4 = 0 ∨ v4 = 1)) → (((gI σ (jx ja 12) v1.toNat) - v5).toNat) < fu6 → wl_X16_isSound_6 ra jx rm Q X fu6 τ6 v1 v2 v4 v5 := by
    intro fu6
    induction fu6 with
    | zero => intro τ6 _ _ _ _ _ h9; omega
    | succ fu6 ih6 =>
      intro τ6 v4 v5 rτ6 fτ6 hi6 hm6
      unfold wl_X16_isSound_6
      have jτ6 := fτ6.2.2.1
      have pτ6 := fτ6.2.2.2
      unfold w_X16_isSound_6
      try simp only [forall_eq, rII, rIJ, rIP, rJJ, rJI, rJP, rPP, rPI, rPJ, g1, g2, g3, g4, g5, g6, g7, g8, Nat.reduceEqDiff, Nat.reduceAdd, false_and, and_false, true_and, and_true, reduceIte, nZ0, nZ1, fun a k => (jτ6 a k).1, fun a k => (jτ6 a k).2, pτ6]
      refine ⟨ja, by exact hj, hja, ?_⟩
      refine ⟨by (first | omega | with_reducible assumption | (unfold rng; omega) | (unfold rng; (repeat' split) <;> omega) | grind), ?_⟩
      split
      · rename_i hc17
        skip
        unfold w_X16_isSound_75
        try simp only [forall_eq, rII, rIJ, rIP, rJJ, rJI, rJP, rPP, rPI, rPJ, g1, g2, g3, g4, g5, g6, g7, g8, Nat.reduceEqDiff, Nat.reduceAdd, false_and, and_false, true_and, and_true, reduceIte, nZ0, nZ1, fun a k => (jτ6 a k).1, fun a k => (jτ6 a k).2, pτ6]
        refine ⟨by (first | omega | with_reducible assumption | (unfold rng; omega) | (unfold rng; (repeat' split) <;> omega) | grind), ?_⟩
        refine hQ _ _ ?_ ?_ ?_
        · exact rτ6
        · exact fτ6
        · (try simp only [rII, rIJ, rIP, rJJ, rJI, rJP, rPP, rPI, rPJ, g1, g2, g3, g4, g5, g6, g7, g8, Nat.reduceEqDiff, Nat.reduceAdd, false_and, and_false, true_and, and_true, reduceIte, nZ0, nZ1, fun a k => (jτ6 a k).1, fun a k => (jτ6 a k).2, pτ6]) <;> (first | omega | with_reducible assumption | (unfold rng; omega) | (unfold rng; (repeat' split) <;> omega) | grind)
      · rename_i hc17
        skip
        unfold w_X16_isSound_20
        try simp only [forall_eq, rII, rIJ, rIP, rJJ, rJI, rJP, rPP, rPI, rPJ, g1, g2, g3, g4, g5, g6, g7, g8, Nat.reduceEqDiff, Nat.reduceAdd, false_and, and_false, true_and, and_true, reduceIte, nZ0, nZ1, fun a k => (jτ6 a k).1, fun a k => (jτ6 a k).2, pτ6]
        split
        · rename_i hc22
          skip
          unfold w_X16_isSound_75
          try simp only [forall_eq, rII, rIJ, rIP, rJJ, rJI, rJP, rPP, rPI, rPJ, g1, g2, g3, g4, g5, g6, g7, g8, Nat.reduceEqDiff, Nat.reduceAdd, false_and, and_false, true_and, and_true, reduceIte, nZ0, nZ1, fun a k => (jτ6 a k).1, fun a k => (jτ6 a k).2, pτ6]
          refine ⟨by (first | omega | with_reducible assumption | (unfold rng; omega) | (unfold rng; (repeat' split) <;> omega) | grind), ?_⟩
          refine hQ _ _ ?_ ?_ ?_
          · exact rτ6
          · exact fτ6
          · (try simp only [rII, rIJ, rIP, rJJ, rJI, rJP, rPP, rPI, rPJ, g1, g2, g3, g4, g5, g6, g7, g8, Nat.reduceEqDiff, Nat.reduceAdd, false_and, and_false, true_and, and_true, reduceIte, nZ0, nZ1, fun a k => (jτ6 a k).1, fun a k => (jτ6 a k).2, pτ6]) <;> (first | omega | with_reducible assumption | (unfold rng; omega) | (unfold rng; (repeat' split) <;> omega) | grind)
        · rename_i hc22
          skip
          unfold w_X16_isSound_25
          try simp only [forall_eq, rII, rIJ, rIP, rJJ, rJI, rJP, rPP, rPI, rPJ, g1, g2, g3, g4, g5, g6, g7, g8, Nat.reduceEqDiff, Nat.reduceAdd, false_and, and_false, true_and, and_true, reduceIte, nZ0, nZ1, fun a k => (jτ6 a k).1, fun a k => (jτ6 a k).2, pτ6]
          refine ⟨ja, by exact hj, hja, ?_⟩
          refine ⟨by (first | omega | with_reducible assumption | (unfold rng; omega) | (unfold rng; (repeat' split) <;> omega) | grind), ?_⟩
          refine ⟨by (first | omega | with_reducible assumption | (unfold rng; omega) | (unfold rng; (repeat' split) <;> omega) | grind), ?_⟩
          refine ⟨by (first | omega | with_reducible assumption | (unfold rng; omega) | (unfold rng; (repeat' split) <;> omega) | grind), ?_⟩
          have q2 := rσ.2.2.1 ja 13 (((8 * v1) + v5).toNat); simp only [rgJ] at q2
          refine s_X16_worth (b5 := (ra 81)) (n5 := 8) g rτ6 rfl (Or.inl ⟨81, rfl, by decide⟩) (by first | exact hj | (rw [fτ6.2.2.2]; exact hj)) hja (by (try simp only [rII, rIJ, rIP, rJJ, rJI, rJP, rPP, rPI, rPJ, g1, g2, g3, g4, g5, g6, g7, g8, Nat.reduceEqDiff, Nat.reduceAdd, false_and, and_false, true_and, and_true, reduceIte, nZ0, nZ1, fun a k => (jτ6 a k).1, fun a k => (jτ6 a k).2, pτ6]) <;> exact PO.fr (hvs v5 (by omega) (by omega)) hja fτ6 (by decide)) (by (try simp only [rII, rIJ, rIP, rJJ, rJI, rJP, rPP, rPI, rPJ, g1, g2, g3, g4, g5, g6, g7, g8, Nat.reduceEqDiff, Nat.reduceAdd, false_and, and_false, true_and, and_true, reduceIte, nZ0, nZ1, fun a k => (jτ6 a k).1, fun a k => (jτ6 a k).2, pτ6]) <;> (first | omega | with_reducible assumption | (unfold rng; omega) | (unfold rng; (repeat' split) <;> omega) | grind)) (by (try simp only [rII, rIJ, rIP, rJJ, rJI, rJP, rPP, rPI, rPJ, g1, g2, g3, g4, g5, g6, g7, g8, Nat.reduceEqDiff, Nat.reduceAdd, false_and, and_false, true_and, and_true, reduceIte, nZ0, nZ1, fun a k => (jτ6 a k).1, fun a k => (jτ6 a k).2, pτ6]) <;> (first | omega | with_reducible assumption | (unfold rng; omega) | (unfold rng; (repeat' split) <;> omega) | grind)) (fun σ11 r12 rσ11 fc p3 => ?_)
          have fσ11 : Fr ra jx rm [20] [21] σ σ11 := Fr.tr fτ6 (Fr.mor (fc) (by decide) (by decide))
          have jσ11 := fσ11.2.2.1
          have pσ11 := fσ11.2.2.2
          try simp only [forall_eq, rII, rIJ, rIP, rJJ, rJI, rJP, rPP, rPI, rPJ, g1, g2, g3, g4, g5, g6, g7, g8, Nat.reduceEqDiff, Nat.reduceAdd, false_and, and_false, true_and, and_true, reduceIte, nZ0, nZ1, fun a k => (jσ11 a k).1, fun a k => (jσ11 a k).2, pσ11]
          have q4 := rσ11.2.1 21; simp only [rgS] at q4
          split
          · rename_i hc59
            skip
            unfold w_X16_isSound_66
            try simp only [forall_eq, rII, rIJ, rIP, rJJ, rJI, rJP, rPP, rPI, rPJ, g1, g2, g3, g4, g5, g6, g7, g8, Nat.reduceEqDiff, Nat.reduceAdd, false_and, and_false, true_and, and_true, reduceIte, nZ0, nZ1, fun a k => (jσ11 a k).1, fun a k => (jσ11 a k).2, pσ11]
            unfold w_X16_isSound_67
            try simp only [forall_eq, rII, rIJ, rIP, rJJ, rJI, rJP, rPP, rPI, rPJ, g1, g2, g3, g4, g5, g6, g7, g8, Nat.reduceEqDiff, Nat.reduceAdd, false_and, and_false, true_and, and_true, reduceIte, nZ0, nZ1, fun a k => (jσ11 a k).1, fun a k => (jσ11 a k).2, pσ11]
            refine ⟨by (first | omega | with_reducible assumption | (unfold rng; omega) | (unfold rng; (repeat' split) <;> omega) | grind), ?_⟩
            refine ih6 _ _ _ ?_ ?_ ?_ ?_
            · exact rσ11
            · exact fσ11
            · (try simp only [rII, rIJ, rIP, rJJ, rJI, rJP, rPP, rPI, rPJ, g1, g2, g3, g4, g5, g6, g7, g8, Nat.reduceEqDiff, Nat.reduceAdd, false_and, and_false, true_and, and_true, reduceIte, nZ0, nZ1, fun a k => (jσ11 a k).1, fun a k => (jσ11 a k).2, pσ11]) <;> (first | omega | with_reducible assumption | (unfold rng; omega) | (unfold rng; (repeat' split) <;> omega) | grind)
            · (try simp only [rII, rIJ, rIP, rJJ, rJI, rJP, rPP, rPI, rPJ, g1, g2, g3, g4, g5, g6, g7, g8, Nat.reduceEqDiff, Nat.reduceAdd, false_and, and_false, true_and, and_true, reduceIte, nZ0, nZ1, fun a k => (jσ11 a k).1, fun a k => (jσ11 a k).2, pσ11]) <;> (first | omega | with_reducible assumption | (unfold rng; omega) | (unfold rng; (repeat' split) <;> omega) | grind)
          · rename_i hc59
            skip
            unfold w_X16_isSound_62
            try simp only [forall_eq, rII, rIJ, rIP, rJJ, rJI, rJP, rPP, rPI, rPJ, g1, g2, g3, g4, g5, g6, g7, g8, Nat.reduceEqDiff, Nat.reduceAdd, false_and, and_false, true_and, and_true, reduceIte, nZ0, nZ1, fun a k => (jσ11 a k).1, fun a k => (jσ11 a k).2, pσ11]
            unfold w_X16_isSound_67
            try simp only [forall_eq, rII, rIJ, rIP, rJJ, rJI, rJP, rPP, rPI, rPJ, g1, g2, g3, g4, g5, g6, g7, g8, Nat.reduceEqDiff, Nat.reduceAdd, false_and, and_false, true_and, and_true, reduceIte, nZ0, nZ1, fun a k => (jσ11 a k).1, fun a k => (jσ11 a k).2, pσ11]
            refine ⟨by (first | omega | with_reducible assumption | (unfold rng; omega) | (unfold rng; (repeat' split) <;> omega) | grind), ?_⟩
            refine ih6 _ _ _ ?_ ?_ ?_ ?_
            · exact rσ11
            · exact fσ11
            · (try simp only [rII, rIJ, rIP, rJJ, rJI, rJP, rPP, rPI, rPJ, g1, g2, g3, g4, g5, g6, g7, g8, Nat.reduceEqDiff, Nat.reduceAdd, false_and, and_false, true_and, and_true, reduceIte, nZ0, nZ1, fun a k => (jσ11 a k).1, fun a k => (jσ11 a k).2, pσ11]) <;> (first | omega | with_reducible assumption | (unfold rng; omega) | (unfold rng; (repeat' split) <;> omega) | grind)
            · (try simp only [rII, rIJ, rIP, rJJ, rJI, rJP, rPP, rPI, rPJ, g1, g2, g3, g4, g5, g6, g7, g8, Nat.reduceEqDiff, Nat.reduceAdd, false_and, and_false, true_and, and_true, reduceIte, nZ0, nZ1, fun a k => (jσ11 a k).1, fun a k => (jσ11 a k).2, pσ11]) <;> (first | omega | with_reducible assumption | (unfold rng; omega) | (unfold rng; (repeat' split) <;> omega) | grind)
  refine ⟨_, L6 _ _ _ _ ?_ ?_ ?_ (Nat.lt_succ_self _)⟩
  · exact rσ
  · exact fσ
  · (try simp only [rII, rIJ, rIP, rJJ, rJI, rJP, rPP, rPI, rPJ, g1, g2, g3, g4, g5, g6, g7, g8, Nat.reduceEqDiff, Nat.reduceAdd, false_and, and_false, true_and, and_true, reduceIte, nZ0, nZ1]) <;> (first | omega | with_reducible assumption | (unfold rng; omega) | (unfold rng; (repeat' split) <;> omega) | grind)
set_option maxHeartbeats 2000000 in
theorem s_X16_takeMap {ra : Nat → Nat} {jx : Nat → Nat → Nat} {rm : Nat} {ja : Nat} (g : Geo ra jx rm) {σ : Sg} {v1 : Int} {v2 : Int} {v3 : Int64} {v5 : Int} (rσ : Rg ra jx rm σ) (hj : gP σ rm 17 = some ja) (hja : ja = ra 15 ∨ ja = ra 16) (hth : ThE ra rm σ) (h1 : 0 ≤ v1 ∧ v1 < 64) (h2 : 0 ≤ v2 ∧ v2 < 16) (h3 : v3.toInt ≤ 4611686018427387904) (h5 : 0 ≤ v5 ∧ v5 < 30000) (hp : 1 ≤ gI σ rm 33) (hvs : ∀ k, 0 ≤ k → k < gI σ (jx ja 12) v2.toNat → PO jx ja σ (gI σ (jx ja 13) (8 * v2 + k).toNat)) {Q : Sg → Unit → Prop} {X : Sg → String → Prop} (hQ : ∀ (σ' : Sg) (r : Unit), Rg ra jx rm σ' → Fr ra jx rm [20, 42, 46, 47, 48, 49, 60, 61, 62, 63, 64, 65, 82] [21, 66, 67] σ σ' → (ThE ra rm σ') → Q σ' r) (hX : ∀ (σ' : Sg) (E : String), Rg ra jx rm σ' → Fr ra jx rm [20, 42, 46, 47, 48, 49, 60, 61, 62, 63, 64, 65, 82] [21, 66, 67] σ σ' → (E = "StreamHouseModel$Broken" ∧ ThE ra rm σ') → X σ' E) : wp_X16_takeMap ra jx rm v1 v2 v3 v5 σ Q X := by
  obtain ⟨g1, g2, g3, g4, g5, g6, g7, g8⟩ := id g
  have fσ : Fr ra jx rm [20, 42, 46, 47, 48, 49, 60, 61, 62, 63, 64, 65, 82] [21, 66, 67] σ σ := Fr.rf
  unfold wp_X16_takeMap
  unfold w_X16_takeMap_0
  try simp only [forall_eq, rII, rIJ, rIP, rJJ, rJI, rJP, rPP, rPI, rPJ, g1, g2, g3, g4, g5, g6, g7, g8, Nat.reduceEqDiff, Nat.reduceAdd, false_and, and_false, true_and, and_true, reduceIte, nZ0, nZ1]
  have L3 : ∀ (fu3 : Nat) (τ3 : Sg) (v6 : Int), Rg ra jx rm τ3 → Fr ra jx rm [20, 42, 46, 47, 48, 49, 60, 61, 62, 63, 64, 65, 82] [21, 66, 67] σ τ3 → (ThE ra rm τ3 ∧ 0 ≤ v6 ∧ v6 ≤ 8) → ((8 - v6).toNat) < fu3 → wl_X16_takeMap_3 ra jx rm Q X fu3 τ3 v1 v2 v3 v5 v6 := by
    intro fu3
    induction fu3 with
    | zero => intro τ3 _ _ _ _ h9; omega
    | succ fu3 ih3 =>
      intro τ3 v6 rτ3 fτ3 hi3 hm3
      unfold wl_X16_takeMap_3
      have jτ3 := fτ3.2.2.1
      have pτ3 := fτ3.2.2.2
      unfold w_X16_takeMap_3
      try simp only [forall_eq, rII, rIJ, rIP, rJJ, rJI, rJP, rPP, rPI, rPJ, g1, g2, g3, g4, g5, g6, g7, g8, Nat.reduceEqDiff, Nat.reduceAdd, false_and, and_false, true_and, and_true, reduceIte, nZ0, nZ1, fun a k => (jτ3 a k).1, fun a k => (jτ3 a k).2, pτ3]
      have t3 := hi3.1
      split
      · rename_i hc7
        skip
        unfold w_X16_takeMap_24
        try simp only [forall_eq, rII, rIJ, rIP, rJJ, rJI, rJP, rPP, rPI, rPJ, g1, g2, g3, g4, g5, g6, g7, g8, Nat.reduceEqDiff, Nat.reduceAdd, false_and, and_false, true_and, and_true, reduceIte, nZ0, nZ1, fun a k => (jτ3 a k).1, fun a k => (jτ3 a k).2, pτ3]
        have q1 := rσ.2.2.1 ja 12 (v2.toNat); simp only [rgJ] at q1
        have L27 : ∀ (fu27 : Nat) (τ27 : Sg) (v6 : Int), Rg ra jx rm τ27 → Fr ra jx rm [20, 42, 46, 47, 48, 49, 60, 61, 62, 63, 64, 65, 82] [21, 66, 67] σ τ27 → (ThE ra rm τ27 ∧ 0 ≤ v6 ∧ v6 ≤ (gI σ (jx ja 12) v2.toNat)) → (((gI σ (jx ja 12) v2.toNat) - v6).toNat) < fu27 → wl_X16_takeMap_27 ra jx rm Q X fu27 τ27 v1 v2 v3 v5 v6 := by
          intro fu27
          induction fu27 with
          | zero => intro τ27 _ _ _ _ h9; omega
          | succ fu27 ih27 =>
            intro τ27 v6 rτ27 fτ27 hi27 hm27
            unfold wl_X16_takeMap_27
            have jτ27 := fτ27.2.2.1
            have pτ27 := fτ27.2.2.2
            unfold w_X16_takeMap_27
            try simp only [forall_eq, rII, rIJ, rIP, rJJ, rJI, rJP, rPP, rPI, rPJ, g1, g2, g3, g4, g5, g6, g7, g8, Nat.reduceEqDiff, Nat.reduceAdd, false_and, and_false, true_and, and_true, reduceIte, nZ0, nZ1, fun a k => (jτ27 a k).1, fun a k => (jτ27 a k).2, pτ27]
            have t27 := hi27.1
            refine ⟨ja, by exact hj, hja, ?_⟩
            refine ⟨by (first | omega | with_reducible assumption | (unfold rng; omega) | (unfold rng; (repeat' split) <;> omega) | grind), ?_⟩
            split
            · rename_i hc38
              skip
              unfold w_X16_takeMap_105
              try simp only [forall_eq, rII, rIJ, rIP, rJJ, rJI, rJP, rPP, rPI, rPJ, g1, g2, g3, g4, g5, g6, g7, g8, Nat.reduceEqDiff, Nat.reduceAdd, false_and, and_false, true_and, and_true, reduceIte, nZ0, nZ1, fun a k => (jτ27 a k).1, fun a k => (jτ27 a k).2, pτ27]
              refine s_X16_emit (b4 := (ra 82)) (n4 := 16) g rτ27 (by first | exact hj | (rw [fτ27.2.2.2]; exact hj)) hja rfl (Or.inl ⟨82, rfl, by decide⟩) (by assumption) (by (try simp only [rII, rIJ, rIP, rJJ, rJI, rJP, rPP, rPI, rPJ, g1, g2, g3, g4, g5, g6, g7, g8, Nat.reduceEqDiff, Nat.reduceAdd, false_and, and_false, true_and, and_true, reduceIte, nZ0, nZ1, fun a k => (jτ27 a k).1, fun a k => (jτ27 a k).2, pτ27]) <;> (first | omega | with_reducible assumption | (unfold rng; omega) | (unfold rng; (repeat' split) <;> omega) | grind)) (by (try simp only [rII, rIJ, rIP, rJJ, rJI, rJP, rPP, rPI, rPJ, g1, g2, g3, g4, g5, g6, g7, g8, Nat.reduceEqDiff, Nat.reduceAdd, false_and, and_false, true_and, and_true, reduceIte, nZ0, nZ1, fun a k => (jτ27 a k).1, fun a k => (jτ27 a k).2, pτ27]) <;> (first | omega | with_reducible assumption | (unfold rng; omega) | (unfold rng; (repeat' split) <;> omega) | grind)) (by (try simp only [rII, rIJ, rIP, rJJ, rJI, rJP, rPP, rPI, rPJ, g1, g2, g3, g4, g5, g6, g7, g8, Nat.reduceEqDiff, Nat.reduceAdd, false_and, and_false, true_and, and_true, reduceIte, nZ0, nZ1, fun a k => (jτ27 a k).1, fun a k => (jτ27 a k).2, pτ27]) <;> (first | omega | with_reducible assumption | (unfold rng; omega) | (unfold rng; (repeat' split) <;> omega) | grind)) (by (try simp only [rII, rIJ, rIP, rJJ, rJI, rJP, rPP, rPI, rPJ, g1, g2, g3, g4, g5, g6, g7, g8, Nat.reduceEqDiff, Nat.reduceAdd, false_and, and_false, true_and, and_true, reduceIte, nZ0, nZ1, fun a k => (jτ27 a k).1, fun a k => (jτ27 a k).2, pτ27]) <;> (first | omega | with_reducible assumption | (unfold rng; omega) | (unfold rng; (repeat' split) <;> omega) | grind)) (by (try simp only [rII, rIJ, rIP, rJJ, rJI, rJP, rPP, rPI, rPJ, g1, g2, g3, g4, g5, g6, g7, g8, Nat.reduceEqDiff, Nat.reduceAdd, false_and, and_false, true_and, and_true, reduceIte, nZ0, nZ1, fun a k => (jτ27 a k).1, fun a k => (jτ27 a k).2, pτ27]) <;> (first | omega | with_reducible assumption | (unfold rng; omega) | (unfold rng; (repeat' split) <;> omega) | grind)) (by (try simp only [rII, rIJ, rIP, rJJ, rJI, rJP, rPP, rPI, rPJ, g1, g2, g3, g4, g5, g6, g7, g8, Nat.reduceEqDiff, Nat.reduceAdd, false_and, and_false, true_and, and_true, reduceIte, nZ0, nZ1, fun a k => (jτ27 a k).1, fun a k => (jτ27 a k).2, pτ27]) <;> first | exact hp | (rw [(fτ27.2.1 33 (by decide)).1]; exact hp)) (fun σ18 _ rσ18 fc p2 => ?_) (fun σx E rx fx px => hX _ _ rx (Fr.tr fτ27 (Fr.mor (fx) (by decide) (by decide))) px)
              have fσ18 : Fr ra jx rm [20, 42, 46, 47, 48, 49, 60, 61, 62, 63, 64, 65, 82] [21, 66, 67] σ σ18 := Fr.tr fτ27 (Fr.mor (fc) (by decide) (by decide))
              have t9 := p2
              have jσ18 := fσ18.2.2.1
              have pσ18 := fσ18.2.2.2
              try simp only [forall_eq, rII, rIJ, rIP, rJJ, rJI, rJP, rPP, rPI, rPJ, g1, g2, g3, g4, g5, g6, g7, g8, Nat.reduceEqDiff, Nat.reduceAdd, false_and, and_false, true_and, and_true, reduceIte, nZ0, nZ1, fun a k => (jσ18 a k).1, fun a k => (jσ18 a k).2, pσ18]
              refine hQ _ _ ?_ ?_ ?_
              · exact rσ18
              · exact fσ18
              · first | exact t9 | exact ThE.fr (jx := jx) (K := [42]) (S := []) t9 (by repeat (first | exact Fr.rf | assumption | refine Fr.aJ g ?_ (by decide) | refine Fr.aI g ?_ (by decide) | refine Fr.sI g ?_ (by decide) | refine Fr.sJ g ?_ (by decide))) (by decide) (by decide)
            · rename_i hc38
              skip
              unfold w_X16_takeMap_41
              try simp only [forall_eq, rII, rIJ, rIP, rJJ, rJI, rJP, rPP, rPI, rPJ, g1, g2, g3, g4, g5, g6, g7, g8, Nat.reduceEqDiff, Nat.reduceAdd, false_and, and_false, true_and, and_true, reduceIte, nZ0, nZ1, fun a k => (jτ27 a k).1, fun a k => (jτ27 a k).2, pτ27]
              refine ⟨ja, by exact hj, hja, ?_⟩
              refine ⟨by (first | omega | with_reducible assumption | (unfold rng; omega) | (unfold rng; (repeat' split) <;> omega) | grind), ?_⟩
              refine ⟨by (first | omega | with_reducible assumption | (unfold rng; omega) | (unfold rng; (repeat' split) <;> omega) | grind), ?_⟩
              refine ⟨by (first | omega | with_reducible assumption | (unfold rng; omega) | (unfold rng; (repeat' split) <;> omega) | grind), ?_⟩
              have q3 := rσ.2.2.1 ja 13 (((8 * v2) + v6).toNat); simp only [rgJ] at q3
              refine s_X16_worth (b5 := (ra 81)) (n5 := 8) g rτ27 rfl (Or.inl ⟨81, rfl, by decide⟩) (by first | exact hj | (rw [fτ27.2.2.2]; exact hj)) hja (by (try simp only [rII, rIJ, rIP, rJJ, rJI, rJP, rPP, rPI, rPJ, g1, g2, g3, g4, g5, g6, g7, g8, Nat.reduceEqDiff, Nat.reduceAdd, false_and, and_false, true_and, and_true, reduceIte, nZ0, nZ1, fun a k => (jτ27 a k).1, fun a k => (jτ27 a k).2, pτ27]) <;> exact PO.fr (hvs v6 (by omega) (by omega)) hja fτ27 (by decide)) (by (try simp only [rII, rIJ, rIP, rJJ, rJI, rJP, rPP, rPI, rPJ, g1, g2, g3, g4, g5, g6, g7, g8, Nat.reduceEqDiff, Nat.reduceAdd, false_and, and_false, true_and, and_true, reduceIte, nZ0, nZ1, fun a k => (jτ27 a k).1, fun a k => (jτ27 a k).2, pτ27]) <;> (first | omega | with_reducible assumption | (unfold rng; omega) | (unfold rng; (repeat' split) <;> omega) | grind)) (by (try simp only [rII, rIJ, rIP, rJJ, rJI, rJP, rPP, rPI, rPJ, g1, g2, g3, g4, g5, g6, g7, g8, Nat.reduceEqDiff, Nat.reduceAdd, false_and, and_false, true_and, and_true, reduceIte, nZ0, nZ1, fun a k => (jτ27 a k).1, fun a k => (jτ27 a k).2, pτ27]) <;> (first | omega | with_reducible assumption | (unfold rng; omega) | (unfold rng; (repeat' split) <;> omega) | grind)) (fun σ20 r21 rσ20 fc p4 => ?_)
              have fσ20 : Fr ra jx rm [20, 42, 46, 47, 48, 49, 60, 61, 62, 63, 64, 65, 82] [21, 66, 67] σ σ20 := Fr.tr fτ27 (Fr.mor (fc) (by decide) (by decide))
              have t9 := ThE.fr t27 fc (by decide) (by decide)
              have jσ20 := fσ20.2.2.1
              have pσ20 := fσ20.2.2.2
              try simp only [forall_eq, rII, rIJ, rIP, rJJ, rJI, rJP, rPP, rPI, rPJ, g1, g2, g3, g4, g5, g6, g7, g8, Nat.reduceEqDiff, Nat.reduceAdd, false_and, and_false, true_and, and_true, reduceIte, nZ0, nZ1, fun a k => (jσ20 a k).1, fun a k => (jσ20 a k).2, pσ20]
              have q5 := rσ20.2.1 21; simp only [rgS] at q5
              split
              · rename_i hc76
                skip
                unfold w_X16_takeMap_90
                try simp only [forall_eq, rII, rIJ, rIP, rJJ, rJI, rJP, rPP, rPI, rPJ, g1, g2, g3, g4, g5, g6, g7, g8, Nat.reduceEqDiff, Nat.reduceAdd, false_and, and_false, true_and, and_true, reduceIte, nZ0, nZ1, fun a k => (jσ20 a k).1, fun a k => (jσ20 a k).2, pσ20]
                refine ⟨by (first | omega | with_reducible assumption | (unfold rng; omega) | (unfold rng; (repeat' split) <;> omega) | grind), ?_⟩
                refine ⟨by (first | omega | with_reducible assumption | (unfold rng; omega) | (unfold rng; (repeat' split) <;> omega) | grind), ?_⟩
                refine ih27 _ _ ?_ ?_ ?_ ?_
                · refine Rg.aJ g ?_ (by simp only [rlT]; first | with_reducible assumption | omega | exact Int64.toInt_le _ | (rw [Int64.toInt_ofInt_of_le (by omega) (by omega)]; omega) | grind); exact rσ20
                · refine Fr.aJ g ?_ (by decide); exact fσ20
                · refine ⟨?_, ?_, ?_⟩ <;> (first | with_reducible assumption | omega | exact RecI.fr (jx := jx) (K := [82]) (S := []) (by assumption) (by repeat (first | exact Fr.rf | assumption | refine Fr.aJ g ?_ (by decide) | refine Fr.aI g ?_ (by decide) | refine Fr.sI g ?_ (by decide) | refine Fr.sJ g ?_ (by decide))) (by decide) (by decide) | exact MtI.fr (rm := rm) (K := [82]) (S := []) (by assumption) (by repeat (first | exact Fr.rf | assumption | refine Fr.aJ g ?_ (by decide) | refine Fr.aI g ?_ (by decide) | refine Fr.sI g ?_ (by decide) | refine Fr.sJ g ?_ (by decide))) (by decide) | exact ThE.fr (jx := jx) (K := [82]) (S := []) (by assumption) (by repeat (first | exact Fr.rf | assumption | refine Fr.aJ g ?_ (by decide) | refine Fr.aI g ?_ (by decide) | refine Fr.sI g ?_ (by decide) | refine Fr.sJ g ?_ (by decide))) (by decide) (by decide) | exact HeE.fr (jx := jx) (K := [82]) (S := []) (by assumption) (by repeat (first | exact Fr.rf | assumption | refine Fr.aJ g ?_ (by decide) | refine Fr.aI g ?_ (by decide) | refine Fr.sI g ?_ (by decide) | refine Fr.sJ g ?_ (by decide))) (by decide) (by decide) | ((try simp only [rII, rIJ, rIP, rJJ, rJI, rJP, rPP, rPI, rPJ, g1, g2, g3, g4, g5, g6, g7, g8, Nat.reduceEqDiff, Nat.reduceAdd, false_and, and_false, true_and, and_true, reduceIte, nZ0, nZ1, fun a k => (jσ20 a k).1, fun a k => (jσ20 a k).2, pσ20]) <;> first | omega | assumption | grind))
                · (try simp only [rII, rIJ, rIP, rJJ, rJI, rJP, rPP, rPI, rPJ, g1, g2, g3, g4, g5, g6, g7, g8, Nat.reduceEqDiff, Nat.reduceAdd, false_and, and_false, true_and, and_true, reduceIte, nZ0, nZ1, fun a k => (jσ20 a k).1, fun a k => (jσ20 a k).2, pσ20]) <;> (first | omega | with_reducible assumption | (unfold rng; omega) | (unfold rng; (repeat' split) <;> omega) | grind)
              · rename_i hc76
                skip
                unfold w_X16_takeMap_79
                try simp only [forall_eq, rII, rIJ, rIP, rJJ, rJI, rJP, rPP, rPI, rPJ, g1, g2, g3, g4, g5, g6, g7, g8, Nat.reduceEqDiff, Nat.reduceAdd, false_and, and_false, true_and, and_true, reduceIte, nZ0, nZ1, fun a k => (jσ20 a k).1, fun a k => (jσ20 a k).2, pσ20]
                refine ⟨by (first | omega | with_reducible assumption | (unfold rng; omega) | (unfold rng; (repeat' split) <;> omega) | grind), ?_⟩
                refine ⟨by (first | omega | with_reducible assumption | (unfold rng; omega) | (unfold rng; (repeat' split) <;> omega) | grind), ?_⟩
                have q6 := rσ20.1 42 (v1.toNat); simp only [rgT] at q6
                refine hQ _ _ ?_ ?_ ?_
                · refine Rg.aI g ?_ (by simp only [rgT]; first | with_reducible exact nZ_rng _ | with_reducible exact nB_rng _ | with_reducible exact wr_rng _ | with_reducible exact i32any _ | (first | omega | with_reducible assumption | (unfold rng; omega) | (unfold rng; (repeat' split) <;> omega) | grind)); exact rσ20
                · refine Fr.aI g ?_ (by decide); exact fσ20
                · first | exact t9 | exact ThE.fr (jx := jx) (K := [42]) (S := []) t9 (by repeat (first | exact Fr.rf | assumption | refine Fr.aJ g ?_ (by decide) | refine Fr.aI g ?_ (by decide) | refine Fr.sI g ?_ (by decide) | refine Fr.sJ g ?_ (by decide))) (by decide) (by decide)
        refine ⟨_, L27 _ _ _ ?_ ?_ ?_ (Nat.lt_succ_self _)⟩
        · exact rτ3
        · exact fτ3
        · refine ⟨?_, ?_, ?_⟩ <;> (first | with_reducible assumption | omega | exact RecI.fr (jx := jx) (K := [82]) (S := []) (by assumption) (by repeat (first | exact Fr.rf | assumption | refine Fr.aJ g ?_ (by decide) | refine Fr.aI g ?_ (by decide) | refine Fr.sI g ?_ (by decide) | refine Fr.sJ g ?_ (by decide))) (by decide) (by decide) | exact MtI.fr (rm := rm) (K := [82]) (S := []) (by assumption) (by repeat (first | exact Fr.rf | assumption | refine Fr.aJ g ?_ (by decide) | refine Fr.aI g ?_ (by decide) | refine Fr.sI g ?_ (by decide) | refine Fr.sJ g ?_ (by decide))) (by decide) | exact ThE.fr (jx := jx) (K := [82]) (S := []) (by assumption) (by repeat (first | exact Fr.rf | assumption | refine Fr.aJ g ?_ (by decide) | refine Fr.aI g ?_ (by decide) | refine Fr.sI g ?_ (by decide) | refine Fr.sJ g ?_ (by decide))) (by decide) (by decide) | exact HeE.fr (jx := jx) (K := [82]) (S := []) (by assumption) (by repeat (first | exact Fr.rf | assumption | refine Fr.aJ g ?_ (by decide) | refine Fr.aI g ?_ (by decide) | refine Fr.sI g ?_ (by decide) | refine Fr.sJ g ?_ (by decide))) (by decide) (by decide) | ((try simp only [rII, rIJ, rIP, rJJ, rJI, rJP, rPP, rPI, rPJ, g1, g2, g3, g4, g5, g6, g7, g8, Nat.reduceEqDiff, Nat.reduceAdd, false_and, and_false, true_and, and_true, reduceIte, nZ0, nZ1, fun a k => (jτ3 a k).1, fun a k => (jτ3 a k).2, pτ3]) <;> first | omega | assumption | grind))
      · rename_i hc7
        skip
        unfold w_X16_takeMap_10
        try simp only [forall_eq, rII, rIJ, rIP, rJJ, rJI, rJP, rPP, rPI, rPJ, g1, g2, g3, g4, g5, g6, g7, g8, Nat.reduceEqDiff, Nat.reduceAdd, false_and, and_false, true_and, and_true, reduceIte, nZ0, nZ1, fun a k => (jτ3 a k).1, fun a k => (jτ3 a k).2, pτ3]
        refine ⟨by (first | omega | with_reducible assumption | (unfold rng; omega) | (unfold rng; (repeat' split) <;> omega) | grind), ?_⟩
        refine ⟨by (first | omega | with_reducible assumption | (unfold rng; omega) | (unfold rng; (repeat' split) <;> omega) | grind), ?_⟩
        refine ih3 _ _ ?_ ?_ ?_ ?_
        · refine Rg.aJ g ?_ (by simp only [rlT]; first | with_reducible assumption | omega | exact Int64.toInt_le _ | (rw [Int64.toInt_ofInt_of_le (by omega) (by omega)]; omega) | grind); exact rτ3
        · refine Fr.aJ g ?_ (by decide); exact fτ3
        · refine ⟨?_, ?_, ?_⟩ <;> (first | with_reducible assumption | omega | exact RecI.fr (jx := jx) (K := [82]) (S := []) (by assumption) (by repeat (first | exact Fr.rf | assumption | refine Fr.aJ g ?_ (by decide) | refine Fr.aI g ?_ (by decide) | refine Fr.sI g ?_ (by decide) | refine Fr.sJ g ?_ (by decide))) (by decide) (by decide) | exact MtI.fr (rm := rm) (K := [82]) (S := []) (by assumption) (by repeat (first | exact Fr.rf | assumption | refine Fr.aJ g ?_ (by decide) | refine Fr.aI g ?_ (by decide) | refine Fr.sI g ?_ (by decide) | refine Fr.sJ g ?_ (by decide))) (by decide) | exact ThE.fr (jx := jx) (K := [82]) (S := []) (by assumption) (by repeat (first | exact Fr.rf | assumption | refine Fr.aJ g ?_ (by decide) | refine Fr.aI g ?_ (by decide) | refine Fr.sI g ?_ (by decide) | refine Fr.sJ g ?_ (by decide))) (by decide) (by decide) | exact HeE.fr (jx := jx) (K := [82]) (S := []) (by assumption) (by repeat (first | exact Fr.rf | assumption | refine Fr.aJ g ?_ (by decide) | refine Fr.aI g ?_ (by decide) | refine Fr.sI g ?_ (by decide) | refine Fr.sJ g ?_ (by decide))) (by decide) (by decide) | ((try simp only [rII, rIJ, rIP, rJJ, rJI, rJP, rPP, rPI, rPJ, g1, g2, g3, g4, g5, g6, g7, g8, Nat.reduceEqDiff, Nat.reduceAdd, false_and, and_false, true_and, and_true, reduceIte, nZ0, nZ1, fun a k => (jτ3 a k).1, fun a k => (jτ3 a k).2, pτ3]) <;> first | omega | assumption | grind))
        · (try simp only [rII, rIJ, rIP, rJJ, rJI, rJP, rPP, rPI, rPJ, g1, g2, g3, g4, g5, g6, g7, g8, Nat.reduceEqDiff, Nat.reduceAdd, false_and, and_false, true_and, and_true, reduceIte, nZ0, nZ1, fun a k => (jτ3 a k).1, fun a k => (jτ3 a k).2, pτ3]) <;> (first | omega | with_reducible assumption | (unfold rng; omega) | (unfold rng; (repeat' split) <;> omega) | grind)
  refine ⟨_, L3 _ _ _ ?_ ?_ ?_ (Nat.lt_succ_self _)⟩
  · exact rσ
  · exact fσ
  · refine ⟨?_, ?_, ?_⟩ <;> (first | with_reducible assumption | omega | exact RecI.fr (jx := jx) (K := [82]) (S := []) (by assumption) (by repeat (first | exact Fr.rf | assumption | refine Fr.aJ g ?_ (by decide) | refine Fr.aI g ?_ (by decide) | refine Fr.sI g ?_ (by decide) | refine Fr.sJ g ?_ (by decide))) (by decide) (by decide) | exact MtI.fr (rm := rm) (K := [82]) (S := []) (by assumption) (by repeat (first | exact Fr.rf | assumption | refine Fr.aJ g ?_ (by decide) | refine Fr.aI g ?_ (by decide) | refine Fr.sI g ?_ (by decide) | refine Fr.sJ g ?_ (by decide))) (by decide) | exact ThE.fr (jx := jx) (K := [82]) (S := []) (by assumption) (by repeat (first | exact Fr.rf | assumption | refine Fr.aJ g ?_ (by decide) | refine Fr.aI g ?_ (by decide) | refine Fr.sI g ?_ (by decide) | refine Fr.sJ g ?_ (by decide))) (by decide) (by decide) | exact HeE.fr (jx := jx) (K := [82]) (S := []) (by assumption) (by repeat (first | exact Fr.rf | assumption | refine Fr.aJ g ?_ (by decide) | refine Fr.aI g ?_ (by decide) | refine Fr.sI g ?_ (by decide) | refine Fr.sJ g ?_ (by decide))) (by decide) (by decide) | ((try simp only [rII, rIJ, rIP, rJJ, rJI, rJP, rPP, rPI, rPJ, g1, g2, g3, g4, g5, g6, g7, g8, Nat.reduceEqDiff, Nat.reduceAdd, false_and, and_false, true_and, and_true, reduceIte, nZ0, nZ1]) <;> first | omega | assumption | grind))
set_option maxHeartbeats 4000000 in
theorem s_X16_passJoin {ra : Nat → Nat} {jx : Nat → Nat → Nat} {rm : Nat} {ja : Nat} (g : Geo ra jx rm) {σ : Sg} {v1 : Int} {v2 : Int} {v3 : Int} (rσ : Rg ra jx rm σ) (hj : gP σ rm 17 = some ja) (hja : ja = ra 15 ∨ ja = ra 16) (h1 : 0 ≤ v1 ∧ v1 < 16) (h2 : 0 ≤ v2 ∧ v2 < 16) (h3 : 0 ≤ v3 ∧ v3 < 16) (hf : 0 ≤ gI σ (jx ja 4) v1.toNat) (hs : 0 ≤ gI σ (jx ja 5) v1.toNat) {Q : Sg → Unit → Prop} {X : Sg → String → Prop} (hQ : ∀ (σ' : Sg) (r : Unit), Rg ra jx rm σ' → Fr ra jx rm [82, 115, 116] [117] σ σ' → (True) → Q σ' r) (hX : ∀ (σ' : Sg) (E : String), Rg ra jx rm σ' → Fr ra jx rm [82, 115, 116] [117] σ σ' → (E = "StreamHouseModel$Broken") → X σ' E) : wp_X16_passJoin ra jx rm v1 v2 v3 σ Q X := by
  obtain ⟨g1, g2, g3, g4, g5, g6, g7, g8⟩ := id g
  have fσ : Fr ra jx rm [82, 115, 116] [117] σ σ := Fr.rf
  unfold wp_X16_passJoin
  unfold w_X16_passJoin_0
  try simp only [forall_eq, rII, rIJ, rIP, rJJ, rJI, rJP, rPP, rPI, rPJ, g1, g2, g3, g4, g5, g6, g7, g8, Nat.reduceEqDiff, Nat.reduceAdd, false_and, and_false, true_and, and_true, reduceIte, nZ0, nZ1]
  refine ⟨by (first | omega | with_reducible assumption | (unfold rng; omega) | (unfold rng; (repeat' split) <;> omega) | grind), ?_⟩
  have q1 := rσ.1 118 (v2.toNat); simp only [rgT] at q1
  have L8 : ∀ (fu8 : Nat) (τ8 : Sg) (v4 : Int), Rg ra jx rm τ8 → Fr ra jx rm [82, 115, 116] [117] σ τ8 → (0 ≤ v4) → ((4000 - v4).toNat) < fu8 → wl_X16_passJoin_8 ra jx rm Q X fu8 τ8 v1 v2 v3 v4 := by
    intro fu8
    induction fu8 with
    | zero => intro τ8 _ _ _ _ h9; omega
    | succ fu8 ih8 =>
      intro τ8 v4 rτ8 fτ8 hi8 hm8
      unfold wl_X16_passJoin_8
      have eτ8_118 := fτ8.1 118 (by decide)
      have jτ8 := fτ8.2.2.1
      have pτ8 := fτ8.2.2.2
      unfold w_X16_passJoin_8
      try simp only [forall_eq, rII, rIJ, rIP, rJJ, rJI, rJP, rPP, rPI, rPJ, g1, g2, g3, g4, g5, g6, g7, g8, Nat.reduceEqDiff, Nat.reduceAdd, false_and, and_false, true_and, and_true, reduceIte, nZ0, nZ1, eτ8_118.1, eτ8_118.2, fun a k => (jτ8 a k).1, fun a k => (jτ8 a k).2, pτ8]
      refine ⟨by (first | omega | with_reducible assumption | (unfold rng; omega) | (unfold rng; (repeat' split) <;> omega) | grind), ?_⟩
      refine ⟨by (first | omega | with_reducible assumption | (unfold rng; omega) | (unfold rng; (repeat' split) <;> omega) | grind), ?_⟩
      have q2 := rσ.1 118 ((v2 + 1).toNat); simp only [rgT] at q2
      split
      · rename_i hc18
        skip
        unfold w_X16_passJoin_172
        try simp only [forall_eq, rII, rIJ, rIP, rJJ, rJI, rJP, rPP, rPI, rPJ, g1, g2, g3, g4, g5, g6, g7, g8, Nat.reduceEqDiff, Nat.reduceAdd, false_and, and_false, true_and, and_true, reduceIte, nZ0, nZ1, eτ8_118.1, eτ8_118.2, fun a k => (jτ8 a k).1, fun a k => (jτ8 a k).2, pτ8]
        refine hQ _ _ ?_ ?_ ?_
        · exact rτ8
        · exact fτ8
        · exact trivial
      · rename_i hc18
        skip
        unfold w_X16_passJoin_21
        try simp only [forall_eq, rII, rIJ, rIP, rJJ, rJI, rJP, rPP, rPI, rPJ, g1, g2, g3, g4, g5, g6, g7, g8, Nat.reduceEqDiff, Nat.reduceAdd, false_and, and_false, true_and, and_true, reduceIte, nZ0, nZ1, eτ8_118.1, eτ8_118.2, fun a k => (jτ8 a k).1, fun a k => (jτ8 a k).2, pτ8]
        refine ⟨by (first | omega | with_reducible assumption | (unfold rng; omega) | (unfold rng; (repeat' split) <;> omega) | grind), ?_⟩
        have q3 := rσ.1 118 (v3.toNat); simp only [rgT] at q3
        have L29 : ∀ (fu29 : Nat) (τ29 : Sg) (v5 : Int), Rg ra jx rm τ29 → Fr ra jx rm [82, 115, 116] [117] σ τ29 → (0 ≤ v5) → ((4000 - v5).toNat) < fu29 → wl_X16_passJoin_29 ra jx rm (wl_X16_passJoin_8 ra jx rm Q X fu8) Q X fu29 τ29 v1 v2 v3 v4 v5 := by
          intro fu29
          induction fu29 with
          | zero => intro τ29 _ _ _ _ h9; omega
          | succ fu29 ih29 =>
            intro τ29 v5 rτ29 fτ29 hi29 hm29
            unfold wl_X16_passJoin_29
            have eτ29_118 := fτ29.1 118 (by decide)
            have jτ29 := fτ29.2.2.1
            have pτ29 := fτ29.2.2.2
            unfold w_X16_passJoin_29
            try simp only [forall_eq, rII, rIJ, rIP, rJJ, rJI, rJP, rPP, rPI, rPJ, g1, g2, g3, g4, g5, g6, g7, g8, Nat.reduceEqDiff, Nat.reduceAdd, false_and, and_false, true_and, and_true, reduceIte, nZ0, nZ1, eτ29_118.1, eτ29_118.2, fun a k => (jτ29 a k).1, fun a k => (jτ29 a k).2, pτ29]
            refine ⟨by (first | omega | with_reducible assumption | (unfold rng; omega) | (unfold rng; (repeat' split) <;> omega) | grind), ?_⟩
            refine ⟨by (first | omega | with_reducible assumption | (unfold rng; omega) | (unfold rng; (repeat' split) <;> omega) | grind), ?_⟩
            have q4 := rσ.1 118 ((v3 + 1).toNat); simp only [rgT] at q4
            split
            · rename_i hc39
              skip
              unfold w_X16_passJoin_166
              try simp only [forall_eq, rII, rIJ, rIP, rJJ, rJI, rJP, rPP, rPI, rPJ, g1, g2, g3, g4, g5, g6, g7, g8, Nat.reduceEqDiff, Nat.reduceAdd, false_and, and_false, true_and, and_true, reduceIte, nZ0, nZ1, eτ29_118.1, eτ29_118.2, fun a k => (jτ29 a k).1, fun a k => (jτ29 a k).2, pτ29]
              refine ⟨by (first | omega | with_reducible assumption | (unfold rng; omega) | (unfold rng; (repeat' split) <;> omega) | grind), ?_⟩
              refine ih8 _ _ ?_ ?_ ?_ ?_
              · exact rτ29
              · exact fτ29
              · (try simp only [rII, rIJ, rIP, rJJ, rJI, rJP, rPP, rPI, rPJ, g1, g2, g3, g4, g5, g6, g7, g8, Nat.reduceEqDiff, Nat.reduceAdd, false_and, and_false, true_and, and_true, reduceIte, nZ0, nZ1, eτ29_118.1, eτ29_118.2, fun a k => (jτ29 a k).1, fun a k => (jτ29 a k).2, pτ29]) <;> (first | omega | with_reducible assumption | (unfold rng; omega) | (unfold rng; (repeat' split) <;> omega) | grind)
              · (try simp only [rII, rIJ, rIP, rJJ, rJI, rJP, rPP, rPI, rPJ, g1, g2, g3, g4, g5, g6, g7, g8, Nat.reduceEqDiff, Nat.reduceAdd, false_and, and_false, true_and, and_true, reduceIte, nZ0, nZ1, eτ29_118.1, eτ29_118.2, fun a k => (jτ29 a k).1, fun a k => (jτ29 a k).2, pτ29]) <;> (first | omega | with_reducible assumption | (unfold rng; omega) | (unfold rng; (repeat' split) <;> omega) | grind)
            · rename_i hc39
              skip
              unfold w_X16_passJoin_42
              try simp only [forall_eq, rII, rIJ, rIP, rJJ, rJI, rJP, rPP, rPI, rPJ, g1, g2, g3, g4, g5, g6, g7, g8, Nat.reduceEqDiff, Nat.reduceAdd, false_and, and_false, true_and, and_true, reduceIte, nZ0, nZ1, eτ29_118.1, eτ29_118.2, fun a k => (jτ29 a k).1, fun a k => (jτ29 a k).2, pτ29]
              refine ⟨by (first | omega | with_reducible assumption | (unfold rng; omega) | (unfold rng; (repeat' split) <;> omega) | grind), ?_⟩
              refine ⟨ja, by exact hj, hja, ?_⟩
              refine ⟨by (first | omega | with_reducible assumption | (unfold rng; omega) | (unfold rng; (repeat' split) <;> omega) | grind), ?_⟩
              have q5 := rσ.2.2.1 ja 10 (v1.toNat); simp only [rgJ] at q5
              refine ⟨by (first | omega | with_reducible assumption | (unfold rng; omega) | (unfold rng; (repeat' split) <;> omega) | grind), ?_⟩
              refine ⟨by (first | omega | with_reducible assumption | (unfold rng; omega) | (unfold rng; (repeat' split) <;> omega) | grind), ?_⟩
              refine ⟨by (first | omega | with_reducible assumption | (unfold rng; omega) | (unfold rng; (repeat' split) <;> omega) | grind), ?_⟩
              refine ⟨ja, by exact hj, hja, ?_⟩
              refine ⟨by (first | omega | with_reducible assumption | (unfold rng; omega) | (unfold rng; (repeat' split) <;> omega) | grind), ?_⟩
              have q6 := rσ.2.2.1 ja 11 (v1.toNat); simp only [rgJ] at q6
              refine ⟨by (first | omega | with_reducible assumption | (unfold rng; omega) | (unfold rng; (repeat' split) <;> omega) | grind), ?_⟩
              refine ⟨by (first | omega | with_reducible assumption | (unfold rng; omega) | (unfold rng; (repeat' split) <;> omega) | grind), ?_⟩
              split
              · rename_i hc83
                skip
                unfold w_X16_passJoin_160
                try simp only [forall_eq, rII, rIJ, rIP, rJJ, rJI, rJP, rPP, rPI, rPJ, g1, g2, g3, g4, g5, g6, g7, g8, Nat.reduceEqDiff, Nat.reduceAdd, false_and, and_false, true_and, and_true, reduceIte, nZ0, nZ1, eτ29_118.1, eτ29_118.2, fun a k => (jτ29 a k).1, fun a k => (jτ29 a k).2, pτ29]
                refine ⟨by (first | omega | with_reducible assumption | (unfold rng; omega) | (unfold rng; (repeat' split) <;> omega) | grind), ?_⟩
                refine ih29 _ _ ?_ ?_ ?_ ?_
                · exact rτ29
                · exact fτ29
                · (try simp only [rII, rIJ, rIP, rJJ, rJI, rJP, rPP, rPI, rPJ, g1, g2, g3, g4, g5, g6, g7, g8, Nat.reduceEqDiff, Nat.reduceAdd, false_and, and_false, true_and, and_true, reduceIte, nZ0, nZ1, eτ29_118.1, eτ29_118.2, fun a k => (jτ29 a k).1, fun a k => (jτ29 a k).2, pτ29]) <;> (first | omega | with_reducible assumption | (unfold rng; omega) | (unfold rng; (repeat' split) <;> omega) | grind)
                · (try simp only [rII, rIJ, rIP, rJJ, rJI, rJP, rPP, rPI, rPJ, g1, g2, g3, g4, g5, g6, g7, g8, Nat.reduceEqDiff, Nat.reduceAdd, false_and, and_false, true_and, and_true, reduceIte, nZ0, nZ1, eτ29_118.1, eτ29_118.2, fun a k => (jτ29 a k).1, fun a k => (jτ29 a k).2, pτ29]) <;> (first | omega | with_reducible assumption | (unfold rng; omega) | (unfold rng; (repeat' split) <;> omega) | grind)
              · rename_i hc83
                skip
                unfold w_X16_passJoin_86
                try simp only [forall_eq, rII, rIJ, rIP, rJJ, rJI, rJP, rPP, rPI, rPJ, g1, g2, g3, g4, g5, g6, g7, g8, Nat.reduceEqDiff, Nat.reduceAdd, false_and, and_false, true_and, and_true, reduceIte, nZ0, nZ1, eτ29_118.1, eτ29_118.2, fun a k => (jτ29 a k).1, fun a k => (jτ29 a k).2, pτ29]
                refine ⟨by (first | omega | with_reducible assumption | (unfold rng; omega) | (unfold rng; (repeat' split) <;> omega) | grind), ?_⟩
                refine ⟨by (first | omega | with_reducible assumption | (unfold rng; omega) | (unfold rng; (repeat' split) <;> omega) | grind), ?_⟩
                refine ⟨ja, by exact hj, hja, ?_⟩
                refine ⟨by (first | omega | with_reducible assumption | (unfold rng; omega) | (unfold rng; (repeat' split) <;> omega) | grind), ?_⟩
                refine ⟨ja, by exact hj, hja, ?_⟩
                refine ⟨by (first | omega | with_reducible assumption | (unfold rng; omega) | (unfold rng; (repeat' split) <;> omega) | grind), ?_⟩
                refine s_X16_within g rτ29 (fun r22 p7 => ?_)
                obtain ⟨p7, p7b⟩ := p7
                try simp only [forall_eq, rII, rIJ, rIP, rJJ, rJI, rJP, rPP, rPI, rPJ, g1, g2, g3, g4, g5, g6, g7, g8, Nat.reduceEqDiff, Nat.reduceAdd, false_and, and_false, true_and, and_true, reduceIte, nZ0, nZ1, eτ29_118.1, eτ29_118.2, fun a k => (jτ29 a k).1, fun a k => (jτ29 a k).2, pτ29]
                split
                · rename_i hc122
                  skip
                  unfold w_X16_passJoin_160
                  try simp only [forall_eq, rII, rIJ, rIP, rJJ, rJI, rJP, rPP, rPI, rPJ, g1, g2, g3, g4, g5, g6, g7, g8, Nat.reduceEqDiff, Nat.reduceAdd, false_and, and_false, true_and, and_true, reduceIte, nZ0, nZ1, eτ29_118.1, eτ29_118.2, fun a k => (jτ29 a k).1, fun a k => (jτ29 a k).2, pτ29]
                  refine ⟨by (first | omega | with_reducible assumption | (unfold rng; omega) | (unfold rng; (repeat' split) <;> omega) | grind), ?_⟩
                  refine ih29 _ _ ?_ ?_ ?_ ?_
                  · exact rτ29
                  · exact fτ29
                  · (try simp only [rII, rIJ, rIP, rJJ, rJI, rJP, rPP, rPI, rPJ, g1, g2, g3, g4, g5, g6, g7, g8, Nat.reduceEqDiff, Nat.reduceAdd, false_and, and_false, true_and, and_true, reduceIte, nZ0, nZ1, eτ29_118.1, eτ29_118.2, fun a k => (jτ29 a k).1, fun a k => (jτ29 a k).2, pτ29]) <;> (first | omega | with_reducible assumption | (unfold rng; omega) | (unfold rng; (repeat' split) <;> omega) | grind)
                  · (try simp only [rII, rIJ, rIP, rJJ, rJI, rJP, rPP, rPI, rPJ, g1, g2, g3, g4, g5, g6, g7, g8, Nat.reduceEqDiff, Nat.reduceAdd, false_and, and_false, true_and, and_true, reduceIte, nZ0, nZ1, eτ29_118.1, eτ29_118.2, fun a k => (jτ29 a k).1, fun a k => (jτ29 a k).2, pτ29]) <;> (first | omega | with_reducible assumption | (unfold rng; omega) | (unfold rng; (repeat' split) <;> omega) | grind)
                · rename_i hc122
                  skip
                  unfold w_X16_passJoin_125
                  try simp only [forall_eq, rII, rIJ, rIP, rJJ, rJI, rJP, rPP, rPI, rPJ, g1, g2, g3, g4, g5, g6, g7, g8, Nat.reduceEqDiff, Nat.reduceAdd, false_and, and_false, true_and, and_true, reduceIte, nZ0, nZ1, eτ29_118.1, eτ29_118.2, fun a k => (jτ29 a k).1, fun a k => (jτ29 a k).2, pτ29]
                  refine s_X16_lay g rτ29 (by first | exact hj | (rw [fτ29.2.2.2]; exact hj)) hja (by (try simp only [rII, rIJ, rIP, rJJ, rJI, rJP, rPP, rPI, rPJ, g1, g2, g3, g4, g5, g6, g7, g8, Nat.reduceEqDiff, Nat.reduceAdd, false_and, and_false, true_and, and_true, reduceIte, nZ0, nZ1, eτ29_118.1, eτ29_118.2, fun a k => (jτ29 a k).1, fun a k => (jτ29 a k).2, pτ29]) <;> (first | omega | with_reducible assumption | (unfold rng; omega) | (unfold rng; (repeat' split) <;> omega) | grind)) (by (try simp only [rII, rIJ, rIP, rJJ, rJI, rJP, rPP, rPI, rPJ, g1, g2, g3, g4, g5, g6, g7, g8, Nat.reduceEqDiff, Nat.reduceAdd, false_and, and_false, true_and, and_true, reduceIte, nZ0, nZ1, eτ29_118.1, eτ29_118.2, fun a k => (jτ29 a k).1, fun a k => (jτ29 a k).2, pτ29]) <;> (first | omega | with_reducible assumption | (unfold rng; omega) | (unfold rng; (repeat' split) <;> omega) | grind)) (by (try simp only [rII, rIJ, rIP, rJJ, rJI, rJP, rPP, rPI, rPJ, g1, g2, g3, g4, g5, g6, g7, g8, Nat.reduceEqDiff, Nat.reduceAdd, false_and, and_false, true_and, and_true, reduceIte, nZ0, nZ1, eτ29_118.1, eτ29_118.2, fun a k => (jτ29 a k).1, fun a k => (jτ29 a k).2, pτ29]) <;> (first | omega | with_reducible assumption | (unfold rng; omega) | (unfold rng; (repeat' split) <;> omega) | grind)) (by (try simp only [rII, rIJ, rIP, rJJ, rJI, rJP, rPP, rPI, rPJ, g1, g2, g3, g4, g5, g6, g7, g8, Nat.reduceEqDiff, Nat.reduceAdd, false_and, and_false, true_and, and_true, reduceIte, nZ0, nZ1, eτ29_118.1, eτ29_118.2, fun a k => (jτ29 a k).1, fun a k => (jτ29 a k).2, pτ29]) <;> (first | omega | with_reducible assumption | (unfold rng; omega) | (unfold rng; (repeat' split) <;> omega) | grind)) (by (try simp only [rII, rIJ, rIP, rJJ, rJI, rJP, rPP, rPI, rPJ, g1, g2, g3, g4, g5, g6, g7, g8, Nat.reduceEqDiff, Nat.reduceAdd, false_and, and_false, true_and, and_true, reduceIte, nZ0, nZ1, eτ29_118.1, eτ29_118.2, fun a k => (jτ29 a k).1, fun a k => (jτ29 a k).2, pτ29]) <;> (first | omega | with_reducible assumption | (unfold rng; omega) | (unfold rng; (repeat' split) <;> omega) | grind)) (fun σ23 _ rσ23 fc p8 => ?_)
                  have fσ23 : Fr ra jx rm [82, 115, 116] [117] σ σ23 := Fr.tr fτ29 (Fr.mor (fc) (by decide) (by decide))
                  have eσ23_118 := fσ23.1 118 (by decide)
                  have jσ23 := fσ23.2.2.1
                  have pσ23 := fσ23.2.2.2
                  try simp only [forall_eq, rII, rIJ, rIP, rJJ, rJI, rJP, rPP, rPI, rPJ, g1, g2, g3, g4, g5, g6, g7, g8, Nat.reduceEqDiff, Nat.reduceAdd, false_and, and_false, true_and, and_true, reduceIte, nZ0, nZ1, eσ23_118.1, eσ23_118.2, fun a k => (jσ23 a k).1, fun a k => (jσ23 a k).2, pσ23]
                  refine ⟨by (first | omega | with_reducible assumption | (unfold rng; omega) | (unfold rng; (repeat' split) <;> omega) | grind), ?_⟩
                  refine ⟨by (first | omega | with_reducible assumption | (unfold rng; omega) | (unfold rng; (repeat' split) <;> omega) | grind), ?_⟩
                  refine s_X16_pass (b3 := (ra 82)) (n3 := 16) g rσ23 rfl (Or.inl ⟨82, rfl, by decide⟩) (by (try simp only [rII, rIJ, rIP, rJJ, rJI, rJP, rPP, rPI, rPJ, g1, g2, g3, g4, g5, g6, g7, g8, Nat.reduceEqDiff, Nat.reduceAdd, false_and, and_false, true_and, and_true, reduceIte, nZ0, nZ1, eσ23_118.1, eσ23_118.2, fun a k => (jσ23 a k).1, fun a k => (jσ23 a k).2, pσ23]) <;> (first | omega | with_reducible assumption | (unfold rng; omega) | (unfold rng; (repeat' split) <;> omega) | grind)) (by (try simp only [rII, rIJ, rIP, rJJ, rJI, rJP, rPP, rPI, rPJ, g1, g2, g3, g4, g5, g6, g7, g8, Nat.reduceEqDiff, Nat.reduceAdd, false_and, and_false, true_and, and_true, reduceIte, nZ0, nZ1, eσ23_118.1, eσ23_118.2, fun a k => (jσ23 a k).1, fun a k => (jσ23 a k).2, pσ23]) <;> (first | omega | with_reducible assumption | (unfold rng; omega) | (unfold rng; (repeat' split) <;> omega) | grind)) (fun σ24 _ rσ24 fc p9 => ?_) (fun σx E rx fx px => hX _ _ rx (Fr.tr fσ23 (Fr.mor (fx) (by decide) (by decide))) px)
                  have fσ24 : Fr ra jx rm [82, 115, 116] [117] σ σ24 := Fr.tr fσ23 (Fr.mor (fc) (by decide) (by decide))
                  have eσ24_118 := fσ24.1 118 (by decide)
                  have jσ24 := fσ24.2.2.1
                  have pσ24 := fσ24.2.2.2
                  try simp only [forall_eq, rII, rIJ, rIP, rJJ, rJI, rJP, rPP, rPI, rPJ, g1, g2, g3, g4, g5, g6, g7, g8, Nat.reduceEqDiff, Nat.reduceAdd, false_and, and_false, true_and, and_true, reduceIte, nZ0, nZ1, eσ24_118.1, eσ24_118.2, fun a k => (jσ24 a k).1, fun a k => (jσ24 a k).2, pσ24]
                  unfold w_X16_passJoin_160
                  try simp only [forall_eq, rII, rIJ, rIP, rJJ, rJI, rJP, rPP, rPI, rPJ, g1, g2, g3, g4, g5, g6, g7, g8, Nat.reduceEqDiff, Nat.reduceAdd, false_and, and_false, true_and, and_true, reduceIte, nZ0, nZ1, eσ24_118.1, eσ24_118.2, fun a k => (jσ24 a k).1, fun a k => (jσ24 a k).2, pσ24]
                  refine ⟨by (first | omega | with_reducible assumption | (unfold rng; omega) | (unfold rng; (repeat' split) <;> omega) | grind), ?_⟩
                  refine ih29 _ _ ?_ ?_ ?_ ?_
                  · exact rσ24
                  · exact fσ24
                  · (try simp only [rII, rIJ, rIP, rJJ, rJI, rJP, rPP, rPI, rPJ, g1, g2, g3, g4, g5, g6, g7, g8, Nat.reduceEqDiff, Nat.reduceAdd, false_and, and_false, true_and, and_true, reduceIte, nZ0, nZ1, eσ24_118.1, eσ24_118.2, fun a k => (jσ24 a k).1, fun a k => (jσ24 a k).2, pσ24]) <;> (first | omega | with_reducible assumption | (unfold rng; omega) | (unfold rng; (repeat' split) <;> omega) | grind)
                  · (try simp only [rII, rIJ, rIP, rJJ, rJI, rJP, rPP, rPI, rPJ, g1, g2, g3, g4, g5, g6, g7, g8, Nat.reduceEqDiff, Nat.reduceAdd, false_and, and_false, true_and, and_true, reduceIte, nZ0, nZ1, eσ24_118.1, eσ24_118.2, fun a k => (jσ24 a k).1, fun a k => (jσ24 a k).2, pσ24]) <;> (first | omega | with_reducible assumption | (unfold rng; omega) | (unfold rng; (repeat' split) <;> omega) | grind)
        refine ⟨_, L29 _ _ _ ?_ ?_ ?_ (Nat.lt_succ_self _)⟩
        · exact rτ8
        · exact fτ8
        · (try simp only [rII, rIJ, rIP, rJJ, rJI, rJP, rPP, rPI, rPJ, g1, g2, g3, g4, g5, g6, g7, g8, Nat.reduceEqDiff, Nat.reduceAdd, false_and, and_false, true_and, and_true, reduceIte, nZ0, nZ1, eτ8_118.1, eτ8_118.2, fun a k => (jτ8 a k).1, fun a k => (jτ8 a k).2, pτ8]) <;> (first | omega | with_reducible assumption | (unfold rng; omega) | (unfold rng; (repeat' split) <;> omega) | grind)
  refine ⟨_, L8 _ _ _ ?_ ?_ ?_ (Nat.lt_succ_self _)⟩
  · exact rσ
  · exact fσ
  · (try simp only [rII, rIJ, rIP, rJJ, rJI, rJP, rPP, rPI, rPJ, g1, g2, g3, g4, g5, g6, g7, g8, Nat.reduceEqDiff, Nat.reduceAdd, false_and, and_false, true_and, and_true, reduceIte, nZ0, nZ1]) <;> (first | omega | with_reducible assumption | (unfold rng; omega) | (unfold rng; (repeat' split) <;> omega) | grind)
set_option maxHeartbeats 4000000 in
theorem s_X16_passLook {ra : Nat → Nat} {jx : Nat → Nat → Nat} {rm : Nat} {ja : Nat} (g : Geo ra jx rm) {σ : Sg} {v1 : Int} {v2 : Int} {v3 : Int} (rσ : Rg ra jx rm σ) (hj : gP σ rm 17 = some ja) (hja : ja = ra 15 ∨ ja = ra 16) (h1 : 0 ≤ v1 ∧ v1 < 16) (h2 : 0 ≤ v2 ∧ v2 < 16) (h3 : 0 ≤ v3 ∧ v3 < 16) (hf : 0 ≤ gI σ (jx ja 4) v1.toNat) (hs : 0 ≤ gI σ (jx ja 5) v1.toNat) {Q : Sg → Unit → Prop} {X : Sg → String → Prop} (hQ : ∀ (σ' : Sg) (r : Unit), Rg ra jx rm σ' → Fr ra jx rm [82, 115, 116] [117] σ σ' → (True) → Q σ' r) (hX : ∀ (σ' : Sg) (E : String), Rg ra jx rm σ' → Fr ra jx rm [82, 115, 116] [117] σ σ' → (E = "StreamHouseModel$Broken") → X σ' E) : wp_X16_passLook ra jx rm v1 v2 v3 σ Q X := by
  obtain ⟨g1, g2, g3, g4, g5, g6, g7, g8⟩ := id g
  have fσ : Fr ra jx rm [82, 115, 116] [117] σ σ := Fr.rf
  unfold wp_X16_passLook
  unfold w_X16_passLook_0
  try simp only [forall_eq, rII, rIJ, rIP, rJJ, rJI, rJP, rPP, rPI, rPJ, g1, g2, g3, g4, g5, g6, g7, g8, Nat.reduceEqDiff, Nat.reduceAdd, false_and, and_false, true_and, and_true, reduceIte, nZ0, nZ1]
  refine ⟨by (first | omega | with_reducible assumption | (unfold rng; omega) | (unfold rng; (repeat' split) <;> omega) | grind), ?_⟩
  have q1 := rσ.1 118 (v2.toNat); simp only [rgT] at q1
  have L8 : ∀ (fu8 : Nat) (τ8 : Sg) (v4 : Int), Rg ra jx rm τ8 → Fr ra jx rm [82, 115, 116] [117] σ τ8 → (0 ≤ v4) → ((4000 - v4).toNat) < fu8 → wl_X16_passLook_8 ra jx rm Q X fu8 τ8 v1 v2 v3 v4 := by
    intro fu8
    induction fu8 with
    | zero => intro τ8 _ _ _ _ h9; omega
    | succ fu8 ih8 =>
      intro τ8 v4 rτ8 fτ8 hi8 hm8
      unfold wl_X16_passLook_8
      have eτ8_118 := fτ8.1 118 (by decide)
      have jτ8 := fτ8.2.2.1
      have pτ8 := fτ8.2.2.2
      unfold w_X16_passLook_8
      try simp only [forall_eq, rII, rIJ, rIP, rJJ, rJI, rJP, rPP, rPI, rPJ, g1, g2, g3, g4, g5, g6, g7, g8, Nat.reduceEqDiff, Nat.reduceAdd, false_and, and_false, true_and, and_true, reduceIte, nZ0, nZ1, eτ8_118.1, eτ8_118.2, fun a k => (jτ8 a k).1, fun a k => (jτ8 a k).2, pτ8]
      refine ⟨by (first | omega | with_reducible assumption | (unfold rng; omega) | (unfold rng; (repeat' split) <;> omega) | grind), ?_⟩
      refine ⟨by (first | omega | with_reducible assumption | (unfold rng; omega) | (unfold rng; (repeat' split) <;> omega) | grind), ?_⟩
      have q2 := rσ.1 118 ((v2 + 1).toNat); simp only [rgT] at q2
      split
      · rename_i hc18
        skip
        unfold w_X16_passLook_225
        try simp only [forall_eq, rII, rIJ, rIP, rJJ, rJI, rJP, rPP, rPI, rPJ, g1, g2, g3, g4, g5, g6, g7, g8, Nat.reduceEqDiff, Nat.reduceAdd, false_and, and_false, true_and, and_true, reduceIte, nZ0, nZ1, eτ8_118.1, eτ8_118.2, fun a k => (jτ8 a k).1, fun a k => (jτ8 a k).2, pτ8]
        refine hQ _ _ ?_ ?_ ?_
        · exact rτ8
        · exact fτ8
        · exact trivial
      · rename_i hc18
        skip
        unfold w_X16_passLook_21
        try simp only [forall_eq, rII, rIJ, rIP, rJJ, rJI, rJP, rPP, rPI, rPJ, g1, g2, g3, g4, g5, g6, g7, g8, Nat.reduceEqDiff, Nat.reduceAdd, false_and, and_false, true_and, and_true, reduceIte, nZ0, nZ1, eτ8_118.1, eτ8_118.2, fun a k => (jτ8 a k).1, fun a k => (jτ8 a k).2, pτ8]
        refine ⟨by (first | omega | with_reducible assumption | (unfold rng; omega) | (unfold rng; (repeat' split) <;> omega) | grind), ?_⟩
        have q3 := rσ.1 118 (v3.toNat); simp only [rgT] at q3
        have L32 : ∀ (fu32 : Nat) (v5 : Int) (v6 : Int), (0 ≤ v6 ∧ (v5 = -1 ∨ (0 ≤ v5 ∧ v5 < 4000))) → ((4000 - v6).toNat) < fu32 → wl_X16_passLook_32 ra jx rm (wl_X16_passLook_8 ra jx rm Q X fu8) Q X fu32 τ8 v1 v2 v3 v4 v5 v6 := by
          intro fu32
          induction fu32 with
          | zero => intro  _ _ _ h9; omega
          | succ fu32 ih32 =>
            intro v5 v6 hi32 hm32
            unfold wl_X16_passLook_32
            unfold w_X16_passLook_32
            try simp only [forall_eq, rII, rIJ, rIP, rJJ, rJI, rJP, rPP, rPI, rPJ, g1, g2, g3, g4, g5, g6, g7, g8, Nat.reduceEqDiff, Nat.reduceAdd, false_and, and_false, true_and, and_true, reduceIte, nZ0, nZ1, eτ8_118.1, eτ8_118.2, fun a k => (jτ8 a k).1, fun a k => (jτ8 a k).2, pτ8]
            refine ⟨by (first | omega | with_reducible assumption | (unfold rng; omega) | (unfold rng; (repeat' split) <;> omega) | grind), ?_⟩
            refine ⟨by (first | omega | with_reducible assumption | (unfold rng; omega) | (unfold rng; (repeat' split) <;> omega) | grind), ?_⟩
            have q4 := rσ.1 118 ((v3 + 1).toNat); simp only [rgT] at q4
            split
            · rename_i hc42
              skip
              unfold w_X16_passLook_188
              try simp only [forall_eq, rII, rIJ, rIP, rJJ, rJI, rJP, rPP, rPI, rPJ, g1, g2, g3, g4, g5, g6, g7, g8, Nat.reduceEqDiff, Nat.reduceAdd, false_and, and_false, true_and, and_true, reduceIte, nZ0, nZ1, eτ8_118.1, eτ8_118.2, fun a k => (jτ8 a k).1, fun a k => (jτ8 a k).2, pτ8]
              split
              · rename_i hc191
                skip
                unfold w_X16_passLook_219
                try simp only [forall_eq, rII, rIJ, rIP, rJJ, rJI, rJP, rPP, rPI, rPJ, g1, g2, g3, g4, g5, g6, g7, g8, Nat.reduceEqDiff, Nat.reduceAdd, false_and, and_false, true_and, and_true, reduceIte, nZ0, nZ1, eτ8_118.1, eτ8_118.2, fun a k => (jτ8 a k).1, fun a k => (jτ8 a k).2, pτ8]
                refine ⟨by (first | omega | with_reducible assumption | (unfold rng; omega) | (unfold rng; (repeat' split) <;> omega) | grind), ?_⟩
                refine ih8 _ _ ?_ ?_ ?_ ?_
                · exact rτ8
                · exact fτ8
                · (try simp only [rII, rIJ, rIP, rJJ, rJI, rJP, rPP, rPI, rPJ, g1, g2, g3, g4, g5, g6, g7, g8, Nat.reduceEqDiff, Nat.reduceAdd, false_and, and_false, true_and, and_true, reduceIte, nZ0, nZ1, eτ8_118.1, eτ8_118.2, fun a k => (jτ8 a k).1, fun a k => (jτ8 a k).2, pτ8]) <;> (first | omega | with_reducible assumption | (unfold rng; omega) | (unfold rng; (repeat' split) <;> omega) | grind)
                · (try simp only [rII, rIJ, rIP, rJJ, rJI, rJP, rPP, rPI, rPJ, g1, g2, g3, g4, g5, g6, g7, g8, Nat.reduceEqDiff, Nat.reduceAdd, false_and, and_false, true_and, and_true, reduceIte, nZ0, nZ1, eτ8_118.1, eτ8_118.2, fun a k => (jτ8 a k).1, fun a k => (jτ8 a k).2, pτ8]) <;> (first | omega | with_reducible assumption | (unfold rng; omega) | (unfold rng; (repeat' split) <;> omega) | grind)
              · rename_i hc191
                skip
                unfold w_X16_passLook_194
                try simp only [forall_eq, rII, rIJ, rIP, rJJ, rJI, rJP, rPP, rPI, rPJ, g1, g2, g3, g4, g5, g6, g7, g8, Nat.reduceEqDiff, Nat.reduceAdd, false_and, and_false, true_and, and_true, reduceIte, nZ0, nZ1, eτ8_118.1, eτ8_118.2, fun a k => (jτ8 a k).1, fun a k => (jτ8 a k).2, pτ8]
                refine s_X16_lay g rτ8 (by first | exact hj | (rw [fτ8.2.2.2]; exact hj)) hja (by (try simp only [rII, rIJ, rIP, rJJ, rJI, rJP, rPP, rPI, rPJ, g1, g2, g3, g4, g5, g6, g7, g8, Nat.reduceEqDiff, Nat.reduceAdd, false_and, and_false, true_and, and_true, reduceIte, nZ0, nZ1, eτ8_118.1, eτ8_118.2, fun a k => (jτ8 a k).1, fun a k => (jτ8 a k).2, pτ8]) <;> (first | omega | with_reducible assumption | (unfold rng; omega) | (unfold rng; (repeat' split) <;> omega) | grind)) (by (try simp only [rII, rIJ, rIP, rJJ, rJI, rJP, rPP, rPI, rPJ, g1, g2, g3, g4, g5, g6, g7, g8, Nat.reduceEqDiff, Nat.reduceAdd, false_and, and_false, true_and, and_true, reduceIte, nZ0, nZ1, eτ8_118.1, eτ8_118.2, fun a k => (jτ8 a k).1, fun a k => (jτ8 a k).2, pτ8]) <;> (first | omega | with_reducible assumption | (unfold rng; omega) | (unfold rng; (repeat' split) <;> omega) | grind)) (by (try simp only [rII, rIJ, rIP, rJJ, rJI, rJP, rPP, rPI, rPJ, g1, g2, g3, g4, g5, g6, g7, g8, Nat.reduceEqDiff, Nat.reduceAdd, false_and, and_false, true_and, and_true, reduceIte, nZ0, nZ1, eτ8_118.1, eτ8_118.2, fun a k => (jτ8 a k).1, fun a k => (jτ8 a k).2, pτ8]) <;> (first | omega | with_reducible assumption | (unfold rng; omega) | (unfold rng; (repeat' split) <;> omega) | grind)) (by (try simp only [rII, rIJ, rIP, rJJ, rJI, rJP, rPP, rPI, rPJ, g1, g2, g3, g4, g5, g6, g7, g8, Nat.reduceEqDiff, Nat.reduceAdd, false_and, and_false, true_and, and_true, reduceIte, nZ0, nZ1, eτ8_118.1, eτ8_118.2, fun a k => (jτ8 a k).1, fun a k => (jτ8 a k).2, pτ8]) <;> (first | omega | with_reducible assumption | (unfold rng; omega) | (unfold rng; (repeat' split) <;> omega) | grind)) (by (try simp only [rII, rIJ, rIP, rJJ, rJI, rJP, rPP, rPI, rPJ, g1, g2, g3, g4, g5, g6, g7, g8, Nat.reduceEqDiff, Nat.reduceAdd, false_and, and_false, true_and, and_true, reduceIte, nZ0, nZ1, eτ8_118.1, eτ8_118.2, fun a k => (jτ8 a k).1, fun a k => (jτ8 a k).2, pτ8]) <;> (first | omega | with_reducible assumption | (unfold rng; omega) | (unfold rng; (repeat' split) <;> omega) | grind)) (fun σ15 _ rσ15 fc p5 => ?_)
                have fσ15 : Fr ra jx rm [82, 115, 116] [117] σ σ15 := Fr.tr fτ8 (Fr.mor (fc) (by decide) (by decide))
                have eσ15_118 := fσ15.1 118 (by decide)
                have jσ15 := fσ15.2.2.1
                have pσ15 := fσ15.2.2.2
                try simp only [forall_eq, rII, rIJ, rIP, rJJ, rJI, rJP, rPP, rPI, rPJ, g1, g2, g3, g4, g5, g6, g7, g8, Nat.reduceEqDiff, Nat.reduceAdd, false_and, and_false, true_and, and_true, reduceIte, nZ0, nZ1, eσ15_118.1, eσ15_118.2, fun a k => (jσ15 a k).1, fun a k => (jσ15 a k).2, pσ15]
                refine ⟨by (first | omega | with_reducible assumption | (unfold rng; omega) | (unfold rng; (repeat' split) <;> omega) | grind), ?_⟩
                refine s_X16_pass (b3 := (ra 82)) (n3 := 16) g rσ15 rfl (Or.inl ⟨82, rfl, by decide⟩) (by (try simp only [rII, rIJ, rIP, rJJ, rJI, rJP, rPP, rPI, rPJ, g1, g2, g3, g4, g5, g6, g7, g8, Nat.reduceEqDiff, Nat.reduceAdd, false_and, and_false, true_and, and_true, reduceIte, nZ0, nZ1, eσ15_118.1, eσ15_118.2, fun a k => (jσ15 a k).1, fun a k => (jσ15 a k).2, pσ15]) <;> (first | omega | with_reducible assumption | (unfold rng; omega) | (unfold rng; (repeat' split) <;> omega) | grind)) (by (try simp only [rII, rIJ, rIP, rJJ, rJI, rJP, rPP, rPI, rPJ, g1, g2, g3, g4, g5, g6, g7, g8, Nat.reduceEqDiff, Nat.reduceAdd, false_and, and_false, true_and, and_true, reduceIte, nZ0, nZ1, eσ15_118.1, eσ15_118.2, fun a k => (jσ15 a k).1, fun a k => (jσ15 a k).2, pσ15]) <;> (first | omega | with_reducible assumption | (unfold rng; omega) | (unfold rng; (repeat' split) <;> omega) | grind)) (fun σ16 _ rσ16 fc p6 => ?_) (fun σx E rx fx px => hX _ _ rx (Fr.tr fσ15 (Fr.mor (fx) (by decide) (by decide))) px)
                have fσ16 : Fr ra jx rm [82, 115, 116] [117] σ σ16 := Fr.tr fσ15 (Fr.mor (fc) (by decide) (by decide))
                have eσ16_118 := fσ16.1 118 (by decide)
                have jσ16 := fσ16.2.2.1
                have pσ16 := fσ16.2.2.2
                try simp only [forall_eq, rII, rIJ, rIP, rJJ, rJI, rJP, rPP, rPI, rPJ, g1, g2, g3, g4, g5, g6, g7, g8, Nat.reduceEqDiff, Nat.reduceAdd, false_and, and_false, true_and, and_true, reduceIte, nZ0, nZ1, eσ16_118.1, eσ16_118.2, fun a k => (jσ16 a k).1, fun a k => (jσ16 a k).2, pσ16]
                unfold w_X16_passLook_219
                try simp only [forall_eq, rII, rIJ, rIP, rJJ, rJI, rJP, rPP, rPI, rPJ, g1, g2, g3, g4, g5, g6, g7, g8, Nat.reduceEqDiff, Nat.reduceAdd, false_and, and_false, true_and, and_true, reduceIte, nZ0, nZ1, eσ16_118.1, eσ16_118.2, fun a k => (jσ16 a k).1, fun a k => (jσ16 a k).2, pσ16]
                refine ⟨by (first | omega | with_reducible assumption | (unfold rng; omega) | (unfold rng; (repeat' split) <;> omega) | grind), ?_⟩
                refine ih8 _ _ ?_ ?_ ?_ ?_
                · exact rσ16
                · exact fσ16
                · (try simp only [rII, rIJ, rIP, rJJ, rJI, rJP, rPP, rPI, rPJ, g1, g2, g3, g4, g5, g6, g7, g8, Nat.reduceEqDiff, Nat.reduceAdd, false_and, and_false, true_and, and_true, reduceIte, nZ0, nZ1, eσ16_118.1, eσ16_118.2, fun a k => (jσ16 a k).1, fun a k => (jσ16 a k).2, pσ16]) <;> (first | omega | with_reducible assumption | (unfold rng; omega) | (unfold rng; (repeat' split) <;> omega) | grind)
                · (try simp only [rII, rIJ, rIP, rJJ, rJI, rJP, rPP, rPI, rPJ, g1, g2, g3, g4, g5, g6, g7, g8, Nat.reduceEqDiff, Nat.reduceAdd, false_and, and_false, true_and, and_true, reduceIte, nZ0, nZ1, eσ16_118.1, eσ16_118.2, fun a k => (jσ16 a k).1, fun a k => (jσ16 a k).2, pσ16]) <;> (first | omega | with_reducible assumption | (unfold rng; omega) | (unfold rng; (repeat' split) <;> omega) | grind)
            · rename_i hc42
              skip
              unfold w_X16_passLook_45
              try simp only [forall_eq, rII, rIJ, rIP, rJJ, rJI, rJP, rPP, rPI, rPJ, g1, g2, g3, g4, g5, g6, g7, g8, Nat.reduceEqDiff, Nat.reduceAdd, false_and, and_false, true_and, and_true, reduceIte, nZ0, nZ1, eτ8_118.1, eτ8_118.2, fun a k => (jτ8 a k).1, fun a k => (jτ8 a k).2, pτ8]
              refine ⟨by (first | omega | with_reducible assumption | (unfold rng; omega) | (unfold rng; (repeat' split) <;> omega) | grind), ?_⟩
              refine ⟨ja, by exact hj, hja, ?_⟩
              refine ⟨by (first | omega | with_reducible assumption | (unfold rng; omega) | (unfold rng; (repeat' split) <;> omega) | grind), ?_⟩
              have q7 := rσ.2.2.1 ja 10 (v1.toNat); simp only [rgJ] at q7
              refine ⟨by (first | omega | with_reducible assumption | (unfold rng; omega) | (unfold rng; (repeat' split) <;> omega) | grind), ?_⟩
              refine ⟨by (first | omega | with_reducible assumption | (unfold rng; omega) | (unfold rng; (repeat' split) <;> omega) | grind), ?_⟩
              refine ⟨by (first | omega | with_reducible assumption | (unfold rng; omega) | (unfold rng; (repeat' split) <;> omega) | grind), ?_⟩
              refine ⟨ja, by exact hj, hja, ?_⟩
              refine ⟨by (first | omega | with_reducible assumption | (unfold rng; omega) | (unfold rng; (repeat' split) <;> omega) | grind), ?_⟩
              have q8 := rσ.2.2.1 ja 11 (v1.toNat); simp only [rgJ] at q8
              refine ⟨by (first | omega | with_reducible assumption | (unfold rng; omega) | (unfold rng; (repeat' split) <;> omega) | grind), ?_⟩
              refine ⟨by (first | omega | with_reducible assumption | (unfold rng; omega) | (unfold rng; (repeat' split) <;> omega) | grind), ?_⟩
              split
              · rename_i hc86
                skip
                unfold w_X16_passLook_111
                try simp only [forall_eq, rII, rIJ, rIP, rJJ, rJI, rJP, rPP, rPI, rPJ, g1, g2, g3, g4, g5, g6, g7, g8, Nat.reduceEqDiff, Nat.reduceAdd, false_and, and_false, true_and, and_true, reduceIte, nZ0, nZ1, eτ8_118.1, eτ8_118.2, fun a k => (jτ8 a k).1, fun a k => (jτ8 a k).2, pτ8]
                unfold w_X16_passLook_112
                try simp only [forall_eq, rII, rIJ, rIP, rJJ, rJI, rJP, rPP, rPI, rPJ, g1, g2, g3, g4, g5, g6, g7, g8, Nat.reduceEqDiff, Nat.reduceAdd, false_and, and_false, true_and, and_true, reduceIte, nZ0, nZ1, eτ8_118.1, eτ8_118.2, fun a k => (jτ8 a k).1, fun a k => (jτ8 a k).2, pτ8]
                try rw [if_pos (by decide)]
                unfold w_X16_passLook_178
                try simp only [forall_eq, rII, rIJ, rIP, rJJ, rJI, rJP, rPP, rPI, rPJ, g1, g2, g3, g4, g5, g6, g7, g8, Nat.reduceEqDiff, Nat.reduceAdd, false_and, and_false, true_and, and_true, reduceIte, nZ0, nZ1, eτ8_118.1, eτ8_118.2, fun a k => (jτ8 a k).1, fun a k => (jτ8 a k).2, pτ8]
                unfold w_X16_passLook_180
                try simp only [forall_eq, rII, rIJ, rIP, rJJ, rJI, rJP, rPP, rPI, rPJ, g1, g2, g3, g4, g5, g6, g7, g8, Nat.reduceEqDiff, Nat.reduceAdd, false_and, and_false, true_and, and_true, reduceIte, nZ0, nZ1, eτ8_118.1, eτ8_118.2, fun a k => (jτ8 a k).1, fun a k => (jτ8 a k).2, pτ8]
                refine ⟨by (first | omega | with_reducible assumption | (unfold rng; omega) | (unfold rng; (repeat' split) <;> omega) | grind), ?_⟩
                refine ih32 _ _ ?_ ?_
                · (try simp only [rII, rIJ, rIP, rJJ, rJI, rJP, rPP, rPI, rPJ, g1, g2, g3, g4, g5, g6, g7, g8, Nat.reduceEqDiff, Nat.reduceAdd, false_and, and_false, true_and, and_true, reduceIte, nZ0, nZ1, eτ8_118.1, eτ8_118.2, fun a k => (jτ8 a k).1, fun a k => (jτ8 a k).2, pτ8]) <;> (first | omega | with_reducible assumption | (unfold rng; omega) | (unfold rng; (repeat' split) <;> omega) | grind)
                · (try simp only [rII, rIJ, rIP, rJJ, rJI, rJP, rPP, rPI, rPJ, g1, g2, g3, g4, g5, g6, g7, g8, Nat.reduceEqDiff, Nat.reduceAdd, false_and, and_false, true_and, and_true, reduceIte, nZ0, nZ1, eτ8_118.1, eτ8_118.2, fun a k => (jτ8 a k).1, fun a k => (jτ8 a k).2, pτ8]) <;> (first | omega | with_reducible assumption | (unfold rng; omega) | (unfold rng; (repeat' split) <;> omega) | grind)
              · rename_i hc86
                skip
                unfold w_X16_passLook_89
                try simp only [forall_eq, rII, rIJ, rIP, rJJ, rJI, rJP, rPP, rPI, rPJ, g1, g2, g3, g4, g5, g6, g7, g8, Nat.reduceEqDiff, Nat.reduceAdd, false_and, and_false, true_and, and_true, reduceIte, nZ0, nZ1, eτ8_118.1, eτ8_118.2, fun a k => (jτ8 a k).1, fun a k => (jτ8 a k).2, pτ8]
                refine ⟨by (first | omega | with_reducible assumption | (unfold rng; omega) | (unfold rng; (repeat' split) <;> omega) | grind), ?_⟩
                refine ⟨by (first | omega | with_reducible assumption | (unfold rng; omega) | (unfold rng; (repeat' split) <;> omega) | grind), ?_⟩
                split
                · rename_i hc104
                  skip
                  unfold w_X16_passLook_111
                  try simp only [forall_eq, rII, rIJ, rIP, rJJ, rJI, rJP, rPP, rPI, rPJ, g1, g2, g3, g4, g5, g6, g7, g8, Nat.reduceEqDiff, Nat.reduceAdd, false_and, and_false, true_and, and_true, reduceIte, nZ0, nZ1, eτ8_118.1, eτ8_118.2, fun a k => (jτ8 a k).1, fun a k => (jτ8 a k).2, pτ8]
                  unfold w_X16_passLook_112
                  try simp only [forall_eq, rII, rIJ, rIP, rJJ, rJI, rJP, rPP, rPI, rPJ, g1, g2, g3, g4, g5, g6, g7, g8, Nat.reduceEqDiff, Nat.reduceAdd, false_and, and_false, true_and, and_true, reduceIte, nZ0, nZ1, eτ8_118.1, eτ8_118.2, fun a k => (jτ8 a k).1, fun a k => (jτ8 a k).2, pτ8]
                  try rw [if_pos (by decide)]
                  unfold w_X16_passLook_178
                  try simp only [forall_eq, rII, rIJ, rIP, rJJ, rJI, rJP, rPP, rPI, rPJ, g1, g2, g3, g4, g5, g6, g7, g8, Nat.reduceEqDiff, Nat.reduceAdd, false_and, and_false, true_and, and_true, reduceIte, nZ0, nZ1, eτ8_118.1, eτ8_118.2, fun a k => (jτ8 a k).1, fun a k => (jτ8 a k).2, pτ8]
                  unfold w_X16_passLook_180
                  try simp only [forall_eq, rII, rIJ, rIP, rJJ, rJI, rJP, rPP, rPI, rPJ, g1, g2, g3, g4, g5, g6, g7, g8, Nat.reduceEqDiff, Nat.reduceAdd, false_and, and_false, true_and, and_true, reduceIte, nZ0, nZ1, eτ8_118.1, eτ8_118.2, fun a k => (jτ8 a k).1, fun a k => (jτ8 a k).2, pτ8]
                  refine ⟨by (first | omega | with_reducible assumption | (unfold rng; omega) | (unfold rng; (repeat' split) <;> omega) | grind), ?_⟩
                  refine ih32 _ _ ?_ ?_
                  · (try simp only [rII, rIJ, rIP, rJJ, rJI, rJP, rPP, rPI, rPJ, g1, g2, g3, g4, g5, g6, g7, g8, Nat.reduceEqDiff, Nat.reduceAdd, false_and, and_false, true_and, and_true, reduceIte, nZ0, nZ1, eτ8_118.1, eτ8_118.2, fun a k => (jτ8 a k).1, fun a k => (jτ8 a k).2, pτ8]) <;> (first | omega | with_reducible assumption | (unfold rng; omega) | (unfold rng; (repeat' split) <;> omega) | grind)
                  · (try simp only [rII, rIJ, rIP, rJJ, rJI, rJP, rPP, rPI, rPJ, g1, g2, g3, g4, g5, g6, g7, g8, Nat.reduceEqDiff, Nat.reduceAdd, false_and, and_false, true_and, and_true, reduceIte, nZ0, nZ1, eτ8_118.1, eτ8_118.2, fun a k => (jτ8 a k).1, fun a k => (jτ8 a k).2, pτ8]) <;> (first | omega | with_reducible assumption | (unfold rng; omega) | (unfold rng; (repeat' split) <;> omega) | grind)
                · rename_i hc104
                  skip
                  unfold w_X16_passLook_107
                  try simp only [forall_eq, rII, rIJ, rIP, rJJ, rJI, rJP, rPP, rPI, rPJ, g1, g2, g3, g4, g5, g6, g7, g8, Nat.reduceEqDiff, Nat.reduceAdd, false_and, and_false, true_and, and_true, reduceIte, nZ0, nZ1, eτ8_118.1, eτ8_118.2, fun a k => (jτ8 a k).1, fun a k => (jτ8 a k).2, pτ8]
                  unfold w_X16_passLook_112
                  try simp only [forall_eq, rII, rIJ, rIP, rJJ, rJI, rJP, rPP, rPI, rPJ, g1, g2, g3, g4, g5, g6, g7, g8, Nat.reduceEqDiff, Nat.reduceAdd, false_and, and_false, true_and, and_true, reduceIte, nZ0, nZ1, eτ8_118.1, eτ8_118.2, fun a k => (jτ8 a k).1, fun a k => (jτ8 a k).2, pτ8]
                  try rw [if_neg (by decide)]
                  unfold w_X16_passLook_119
                  try simp only [forall_eq, rII, rIJ, rIP, rJJ, rJI, rJP, rPP, rPI, rPJ, g1, g2, g3, g4, g5, g6, g7, g8, Nat.reduceEqDiff, Nat.reduceAdd, false_and, and_false, true_and, and_true, reduceIte, nZ0, nZ1, eτ8_118.1, eτ8_118.2, fun a k => (jτ8 a k).1, fun a k => (jτ8 a k).2, pτ8]
                  split
                  · rename_i hc122
                    skip
                    unfold w_X16_passLook_173
                    try simp only [forall_eq, rII, rIJ, rIP, rJJ, rJI, rJP, rPP, rPI, rPJ, g1, g2, g3, g4, g5, g6, g7, g8, Nat.reduceEqDiff, Nat.reduceAdd, false_and, and_false, true_and, and_true, reduceIte, nZ0, nZ1, eτ8_118.1, eτ8_118.2, fun a k => (jτ8 a k).1, fun a k => (jτ8 a k).2, pτ8]
                    unfold w_X16_passLook_180
                    try simp only [forall_eq, rII, rIJ, rIP, rJJ, rJI, rJP, rPP, rPI, rPJ, g1, g2, g3, g4, g5, g6, g7, g8, Nat.reduceEqDiff, Nat.reduceAdd, false_and, and_false, true_and, and_true, reduceIte, nZ0, nZ1, eτ8_118.1, eτ8_118.2, fun a k => (jτ8 a k).1, fun a k => (jτ8 a k).2, pτ8]
                    refine ⟨by (first | omega | with_reducible assumption | (unfold rng; omega) | (unfold rng; (repeat' split) <;> omega) | grind), ?_⟩
                    refine ih32 _ _ ?_ ?_
                    · (try simp only [rII, rIJ, rIP, rJJ, rJI, rJP, rPP, rPI, rPJ, g1, g2, g3, g4, g5, g6, g7, g8, Nat.reduceEqDiff, Nat.reduceAdd, false_and, and_false, true_and, and_true, reduceIte, nZ0, nZ1, eτ8_118.1, eτ8_118.2, fun a k => (jτ8 a k).1, fun a k => (jτ8 a k).2, pτ8]) <;> (first | omega | with_reducible assumption | (unfold rng; omega) | (unfold rng; (repeat' split) <;> omega) | grind)
                    · (try simp only [rII, rIJ, rIP, rJJ, rJI, rJP, rPP, rPI, rPJ, g1, g2, g3, g4, g5, g6, g7, g8, Nat.reduceEqDiff, Nat.reduceAdd, false_and, and_false, true_and, and_true, reduceIte, nZ0, nZ1, eτ8_118.1, eτ8_118.2, fun a k => (jτ8 a k).1, fun a k => (jτ8 a k).2, pτ8]) <;> (first | omega | with_reducible assumption | (unfold rng; omega) | (unfold rng; (repeat' split) <;> omega) | grind)
                  · rename_i hc122
                    skip
                    unfold w_X16_passLook_125
                    try simp only [forall_eq, rII, rIJ, rIP, rJJ, rJI, rJP, rPP, rPI, rPJ, g1, g2, g3, g4, g5, g6, g7, g8, Nat.reduceEqDiff, Nat.reduceAdd, false_and, and_false, true_and, and_true, reduceIte, nZ0, nZ1, eτ8_118.1, eτ8_118.2, fun a k => (jτ8 a k).1, fun a k => (jτ8 a k).2, pτ8]
                    refine ⟨by (first | omega | with_reducible assumption | (unfold rng; omega) | (unfold rng; (repeat' split) <;> omega) | grind), ?_⟩
                    refine ⟨by (first | omega | with_reducible assumption | (unfold rng; omega) | (unfold rng; (repeat' split) <;> omega) | grind), ?_⟩
                    refine ⟨by (first | omega | with_reducible assumption | (unfold rng; omega) | (unfold rng; (repeat' split) <;> omega) | grind), ?_⟩
                    refine ⟨by (first | omega | with_reducible assumption | (unfold rng; omega) | (unfold rng; (repeat' split) <;> omega) | grind), ?_⟩
                    refine ⟨ja, by exact hj, hja, ?_⟩
                    refine ⟨by (first | omega | with_reducible assumption | (unfold rng; omega) | (unfold rng; (repeat' split) <;> omega) | grind), ?_⟩
                    have q9 := rσ.2.2.1 ja 6 (v3.toNat); simp only [rgJ] at q9
                    refine s_X16_order (b3 := (ra 116)) (n3 := 32000) (b7 := (ra 116)) (n7 := 32000) g rτ8 rfl (Or.inl ⟨116, rfl, by decide⟩) rfl (Or.inl ⟨116, rfl, by decide⟩) (by (try simp only [rII, rIJ, rIP, rJJ, rJI, rJP, rPP, rPI, rPJ, g1, g2, g3, g4, g5, g6, g7, g8, Nat.reduceEqDiff, Nat.reduceAdd, false_and, and_false, true_and, and_true, reduceIte, nZ0, nZ1, eτ8_118.1, eτ8_118.2, fun a k => (jτ8 a k).1, fun a k => (jτ8 a k).2, pτ8]) <;> (first | omega | with_reducible assumption | (unfold rng; omega) | (unfold rng; (repeat' split) <;> omega) | grind)) (by (try simp only [rII, rIJ, rIP, rJJ, rJI, rJP, rPP, rPI, rPJ, g1, g2, g3, g4, g5, g6, g7, g8, Nat.reduceEqDiff, Nat.reduceAdd, false_and, and_false, true_and, and_true, reduceIte, nZ0, nZ1, eτ8_118.1, eτ8_118.2, fun a k => (jτ8 a k).1, fun a k => (jτ8 a k).2, pτ8]) <;> (first | omega | with_reducible assumption | (unfold rng; omega) | (unfold rng; (repeat' split) <;> omega) | grind)) (by (try simp only [rII, rIJ, rIP, rJJ, rJI, rJP, rPP, rPI, rPJ, g1, g2, g3, g4, g5, g6, g7, g8, Nat.reduceEqDiff, Nat.reduceAdd, false_and, and_false, true_and, and_true, reduceIte, nZ0, nZ1, eτ8_118.1, eτ8_118.2, fun a k => (jτ8 a k).1, fun a k => (jτ8 a k).2, pτ8]) <;> (first | omega | with_reducible assumption | (unfold rng; omega) | (unfold rng; (repeat' split) <;> omega) | grind)) (by (try simp only [rII, rIJ, rIP, rJJ, rJI, rJP, rPP, rPI, rPJ, g1, g2, g3, g4, g5, g6, g7, g8, Nat.reduceEqDiff, Nat.reduceAdd, false_and, and_false, true_and, and_true, reduceIte, nZ0, nZ1, eτ8_118.1, eτ8_118.2, fun a k => (jτ8 a k).1, fun a k => (jτ8 a k).2, pτ8]) <;> (first | omega | with_reducible assumption | (unfold rng; omega) | (unfold rng; (repeat' split) <;> omega) | grind)) (by (try simp only [rII, rIJ, rIP, rJJ, rJI, rJP, rPP, rPI, rPJ, g1, g2, g3, g4, g5, g6, g7, g8, Nat.reduceEqDiff, Nat.reduceAdd, false_and, and_false, true_and, and_true, reduceIte, nZ0, nZ1, eτ8_118.1, eτ8_118.2, fun a k => (jτ8 a k).1, fun a k => (jτ8 a k).2, pτ8]) <;> (first | omega | with_reducible assumption | (unfold rng; omega) | (unfold rng; (repeat' split) <;> omega) | grind)) (fun r21 p10 => ?_)
                    try simp only [forall_eq, rII, rIJ, rIP, rJJ, rJI, rJP, rPP, rPI, rPJ, g1, g2, g3, g4, g5, g6, g7, g8, Nat.reduceEqDiff, Nat.reduceAdd, false_and, and_false, true_and, and_true, reduceIte, nZ0, nZ1, eτ8_118.1, eτ8_118.2, fun a k => (jτ8 a k).1, fun a k => (jτ8 a k).2, pτ8]
                    split
                    · rename_i hc170
                      skip
                      unfold w_X16_passLook_178
                      try simp only [forall_eq, rII, rIJ, rIP, rJJ, rJI, rJP, rPP, rPI, rPJ, g1, g2, g3, g4, g5, g6, g7, g8, Nat.reduceEqDiff, Nat.reduceAdd, false_and, and_false, true_and, and_true, reduceIte, nZ0, nZ1, eτ8_118.1, eτ8_118.2, fun a k => (jτ8 a k).1, fun a k => (jτ8 a k).2, pτ8]
                      unfold w_X16_passLook_180
                      try simp only [forall_eq, rII, rIJ, rIP, rJJ, rJI, rJP, rPP, rPI, rPJ, g1, g2, g3, g4, g5, g6, g7, g8, Nat.reduceEqDiff, Nat.reduceAdd, false_and, and_false, true_and, and_true, reduceIte, nZ0, nZ1, eτ8_118.1, eτ8_118.2, fun a k => (jτ8 a k).1, fun a k => (jτ8 a k).2, pτ8]
                      refine ⟨by (first | omega | with_reducible assumption | (unfold rng; omega) | (unfold rng; (repeat' split) <;> omega) | grind), ?_⟩
                      refine ih32 _ _ ?_ ?_
                      · (try simp only [rII, rIJ, rIP, rJJ, rJI, rJP, rPP, rPI, rPJ, g1, g2, g3, g4, g5, g6, g7, g8, Nat.reduceEqDiff, Nat.reduceAdd, false_and, and_false, true_and, and_true, reduceIte, nZ0, nZ1, eτ8_118.1, eτ8_118.2, fun a k => (jτ8 a k).1, fun a k => (jτ8 a k).2, pτ8]) <;> (first | omega | with_reducible assumption | (unfold rng; omega) | (unfold rng; (repeat' split) <;> omega) | grind)
                      · (try simp only [rII, rIJ, rIP, rJJ, rJI, rJP, rPP, rPI, rPJ, g1, g2, g3, g4, g5, g6, g7, g8, Nat.reduceEqDiff, Nat.reduceAdd, false_and, and_false, true_and, and_true, reduceIte, nZ0, nZ1, eτ8_118.1, eτ8_118.2, fun a k => (jτ8 a k).1, fun a k => (jτ8 a k).2, pτ8]) <;> (first | omega | with_reducible assumption | (unfold rng; omega) | (unfold rng; (repeat' split) <;> omega) | grind)
                    · rename_i hc170
                      skip
                      unfold w_X16_passLook_173
                      try simp only [forall_eq, rII, rIJ, rIP, rJJ, rJI, rJP, rPP, rPI, rPJ, g1, g2, g3, g4, g5, g6, g7, g8, Nat.reduceEqDiff, Nat.reduceAdd, false_and, and_false, true_and, and_true, reduceIte, nZ0, nZ1, eτ8_118.1, eτ8_118.2, fun a k => (jτ8 a k).1, fun a k => (jτ8 a k).2, pτ8]
                      unfold w_X16_passLook_180
                      try simp only [forall_eq, rII, rIJ, rIP, rJJ, rJI, rJP, rPP, rPI, rPJ, g1, g2, g3, g4, g5, g6, g7, g8, Nat.reduceEqDiff, Nat.reduceAdd, false_and, and_false, true_and, and_true, reduceIte, nZ0, nZ1, eτ8_118.1, eτ8_118.2, fun a k => (jτ8 a k).1, fun a k => (jτ8 a k).2, pτ8]
                      refine ⟨by (first | omega | with_reducible assumption | (unfold rng; omega) | (unfold rng; (repeat' split) <;> omega) | grind), ?_⟩
                      refine ih32 _ _ ?_ ?_
                      · (try simp only [rII, rIJ, rIP, rJJ, rJI, rJP, rPP, rPI, rPJ, g1, g2, g3, g4, g5, g6, g7, g8, Nat.reduceEqDiff, Nat.reduceAdd, false_and, and_false, true_and, and_true, reduceIte, nZ0, nZ1, eτ8_118.1, eτ8_118.2, fun a k => (jτ8 a k).1, fun a k => (jτ8 a k).2, pτ8]) <;> (first | omega | with_reducible assumption | (unfold rng; omega) | (unfold rng; (repeat' split) <;> omega) | grind)
                      · (try simp only [rII, rIJ, rIP, rJJ, rJI, rJP, rPP, rPI, rPJ, g1, g2, g3, g4, g5, g6, g7, g8, Nat.reduceEqDiff, Nat.reduceAdd, false_and, and_false, true_and, and_true, reduceIte, nZ0, nZ1, eτ8_118.1, eτ8_118.2, fun a k => (jτ8 a k).1, fun a k => (jτ8 a k).2, pτ8]) <;> (first | omega | with_reducible assumption | (unfold rng; omega) | (unfold rng; (repeat' split) <;> omega) | grind)
        refine ⟨_, L32 _ _ _ ?_ (Nat.lt_succ_self _)⟩
        · (try simp only [rII, rIJ, rIP, rJJ, rJI, rJP, rPP, rPI, rPJ, g1, g2, g3, g4, g5, g6, g7, g8, Nat.reduceEqDiff, Nat.reduceAdd, false_and, and_false, true_and, and_true, reduceIte, nZ0, nZ1, eτ8_118.1, eτ8_118.2, fun a k => (jτ8 a k).1, fun a k => (jτ8 a k).2, pτ8]) <;> (first | omega | with_reducible assumption | (unfold rng; omega) | (unfold rng; (repeat' split) <;> omega) | grind)
  refine ⟨_, L8 _ _ _ ?_ ?_ ?_ (Nat.lt_succ_self _)⟩
  · exact rσ
  · exact fσ
  · (try simp only [rII, rIJ, rIP, rJJ, rJI, rJP, rPP, rPI, rPJ, g1, g2, g3, g4, g5, g6, g7, g8, Nat.reduceEqDiff, Nat.reduceAdd, false_and, and_false, true_and, and_true, reduceIte, nZ0, nZ1]) <;> (first | omega | with_reducible assumption | (unfold rng; omega) | (unfold rng; (repeat' split) <;> omega) | grind)
set_option maxHeartbeats 4000000 in
theorem s_X16_passUnique {ra : Nat → Nat} {jx : Nat → Nat → Nat} {rm : Nat} {ja : Nat} (g : Geo ra jx rm) {σ : Sg} {v1 : Int} {v2 : Int} (rσ : Rg ra jx rm σ) (hj : gP σ rm 17 = some ja) (hja : ja = ra 15 ∨ ja = ra 16) (h1 : 0 ≤ v1 ∧ v1 < 16) (h2 : 0 ≤ v2 ∧ v2 < 16) {Q : Sg → Unit → Prop} {X : Sg → String → Prop} (hQ : ∀ (σ' : Sg) (r : Unit), Rg ra jx rm σ' → Fr ra jx rm [81, 115, 116, 119] [117] σ σ' → (True) → Q σ' r) (hX : ∀ (σ' : Sg) (E : String), Rg ra jx rm σ' → Fr ra jx rm [81, 115, 116, 119] [117] σ σ' → (E = "StreamHouseModel$Broken") → X σ' E) : wp_X16_passUnique ra jx rm v1 v2 σ Q X := by
  obtain ⟨g1, g2, g3, g4, g5, g6, g7, g8⟩ := id g
  have fσ : Fr ra jx rm [81, 115, 116, 119] [117] σ σ := Fr.rf
  unfold wp_X16_passUnique
  unfold w_X16_passUnique_0
  try simp only [forall_eq, rII, rIJ, rIP, rJJ, rJI, rJP, rPP, rPI, rPJ, g1, g2, g3, g4, g5, g6, g7, g8, Nat.reduceEqDiff, Nat.reduceAdd, false_and, and_false, true_and, and_true, reduceIte, nZ0, nZ1]
  refine s_X16_sort g rσ (by first | exact hj | (rw [fσ.2.2.2]; exact hj)) hja (by (try simp only [rII, rIJ, rIP, rJJ, rJI, rJP, rPP, rPI, rPJ, g1, g2, g3, g4, g5, g6, g7, g8, Nat.reduceEqDiff, Nat.reduceAdd, false_and, and_false, true_and, and_true, reduceIte, nZ0, nZ1]) <;> (first | omega | with_reducible assumption | (unfold rng; omega) | (unfold rng; (repeat' split) <;> omega) | grind)) (fun σ15 r16 rσ15 fc p1 => ?_)
  have fσ15 : Fr ra jx rm [81, 115, 116, 119] [117] σ σ15 := Fr.tr fσ (Fr.mor (fc) (by decide) (by decide))
  have jσ15 := fσ15.2.2.1
  have pσ15 := fσ15.2.2.2
  try simp only [forall_eq, rII, rIJ, rIP, rJJ, rJI, rJP, rPP, rPI, rPJ, g1, g2, g3, g4, g5, g6, g7, g8, Nat.reduceEqDiff, Nat.reduceAdd, false_and, and_false, true_and, and_true, reduceIte, nZ0, nZ1, fun a k => (jσ15 a k).1, fun a k => (jσ15 a k).2, pσ15]
  have q2 := rσ.2.1 117; simp only [rgS] at q2
  have L15 : ∀ (fu15 : Nat) (τ15 : Sg) (v5 : Int), Rg ra jx rm τ15 → Fr ra jx rm [81, 115, 116, 119] [117] σ τ15 → (0 ≤ v5 ∧ v5 ≤ r16) → ((r16 - v5).toNat) < fu15 → wl_X16_passUnique_15 ra jx rm Q X fu15 τ15 v1 (gI σ rm 117) r16 v5 := by
    intro fu15
    induction fu15 with
    | zero => intro τ15 _ _ _ _ h9; omega
    | succ fu15 ih15 =>
      intro τ15 v5 rτ15 fτ15 hi15 hm15
      unfold wl_X16_passUnique_15
      have jτ15 := fτ15.2.2.1
      have pτ15 := fτ15.2.2.2
      unfold w_X16_passUnique_15
      try simp only [forall_eq, rII, rIJ, rIP, rJJ, rJI, rJP, rPP, rPI, rPJ, g1, g2, g3, g4, g5, g6, g7, g8, Nat.reduceEqDiff, Nat.reduceAdd, false_and, and_false, true_and, and_true, reduceIte, nZ0, nZ1, fun a k => (jτ15 a k).1, fun a k => (jτ15 a k).2, pτ15]
      split
      · rename_i hc19
        skip
        unfold w_X16_passUnique_163
        try simp only [forall_eq, rII, rIJ, rIP, rJJ, rJI, rJP, rPP, rPI, rPJ, g1, g2, g3, g4, g5, g6, g7, g8, Nat.reduceEqDiff, Nat.reduceAdd, false_and, and_false, true_and, and_true, reduceIte, nZ0, nZ1, fun a k => (jτ15 a k).1, fun a k => (jτ15 a k).2, pτ15]
        refine hQ _ _ ?_ ?_ ?_
        · exact rτ15
        · exact fτ15
        · exact trivial
      · rename_i hc19
        skip
        unfold w_X16_passUnique_22
        try simp only [forall_eq, rII, rIJ, rIP, rJJ, rJI, rJP, rPP, rPI, rPJ, g1, g2, g3, g4, g5, g6, g7, g8, Nat.reduceEqDiff, Nat.reduceAdd, false_and, and_false, true_and, and_true, reduceIte, nZ0, nZ1, fun a k => (jτ15 a k).1, fun a k => (jτ15 a k).2, pτ15]
        refine ⟨by (first | omega | with_reducible assumption | (unfold rng; omega) | (unfold rng; (repeat' split) <;> omega) | grind), ?_⟩
        have q3 := rτ15.1 119 (v5.toNat); simp only [rgT] at q3
        refine s_X16_load g rτ15 (by (try simp only [rII, rIJ, rIP, rJJ, rJI, rJP, rPP, rPI, rPJ, g1, g2, g3, g4, g5, g6, g7, g8, Nat.reduceEqDiff, Nat.reduceAdd, false_and, and_false, true_and, and_true, reduceIte, nZ0, nZ1, fun a k => (jτ15 a k).1, fun a k => (jτ15 a k).2, pτ15]) <;> (first | omega | with_reducible assumption | (unfold rng; omega) | (unfold rng; (repeat' split) <;> omega) | grind)) (fun σ17 _ rσ17 fc p4 => ?_)
        have fσ17 : Fr ra jx rm [81, 115, 116, 119] [117] σ σ17 := Fr.tr fτ15 (Fr.mor (fc) (by decide) (by decide))
        have jσ17 := fσ17.2.2.1
        have pσ17 := fσ17.2.2.2
        try simp only [forall_eq, rII, rIJ, rIP, rJJ, rJI, rJP, rPP, rPI, rPJ, g1, g2, g3, g4, g5, g6, g7, g8, Nat.reduceEqDiff, Nat.reduceAdd, false_and, and_false, true_and, and_true, reduceIte, nZ0, nZ1, fun a k => (jσ17 a k).1, fun a k => (jσ17 a k).2, pσ17]
        have L43 : ∀ (fu43 : Nat) (v7 : Int) (v8 : Int), (0 ≤ v8 ∧ (v7 = 0 ∨ v7 = 1)) → ((4000 - v8).toNat) < fu43 → wl_X16_passUnique_43 ra jx rm (wl_X16_passUnique_15 ra jx rm Q X fu15) Q X fu43 σ17 v1 (gI σ rm 117) r16 v5 (gI τ15 (ra 119) v5.toNat) v7 v8 := by
          intro fu43
          induction fu43 with
          | zero => intro  _ _ _ h9; omega
          | succ fu43 ih43 =>
            intro v7 v8 hi43 hm43
            unfold wl_X16_passUnique_43
            unfold w_X16_passUnique_43
            try simp only [forall_eq, rII, rIJ, rIP, rJJ, rJI, rJP, rPP, rPI, rPJ, g1, g2, g3, g4, g5, g6, g7, g8, Nat.reduceEqDiff, Nat.reduceAdd, false_and, and_false, true_and, and_true, reduceIte, nZ0, nZ1, fun a k => (jσ17 a k).1, fun a k => (jσ17 a k).2, pσ17]
            have q5 := rσ17.2.1 117; simp only [rgS] at q5
            split
            · rename_i hc49
              skip
              unfold w_X16_passUnique_136
              try simp only [forall_eq, rII, rIJ, rIP, rJJ, rJI, rJP, rPP, rPI, rPJ, g1, g2, g3, g4, g5, g6, g7, g8, Nat.reduceEqDiff, Nat.reduceAdd, false_and, and_false, true_and, and_true, reduceIte, nZ0, nZ1, fun a k => (jσ17 a k).1, fun a k => (jσ17 a k).2, pσ17]
              split
              · rename_i hc138
                skip
                unfold w_X16_passUnique_157
                try simp only [forall_eq, rII, rIJ, rIP, rJJ, rJI, rJP, rPP, rPI, rPJ, g1, g2, g3, g4, g5, g6, g7, g8, Nat.reduceEqDiff, Nat.reduceAdd, false_and, and_false, true_and, and_true, reduceIte, nZ0, nZ1, fun a k => (jσ17 a k).1, fun a k => (jσ17 a k).2, pσ17]
                refine ⟨by (first | omega | with_reducible assumption | (unfold rng; omega) | (unfold rng; (repeat' split) <;> omega) | grind), ?_⟩
                refine ih15 _ _ ?_ ?_ ?_ ?_
                · exact rσ17
                · exact fσ17
                · (try simp only [rII, rIJ, rIP, rJJ, rJI, rJP, rPP, rPI, rPJ, g1, g2, g3, g4, g5, g6, g7, g8, Nat.reduceEqDiff, Nat.reduceAdd, false_and, and_false, true_and, and_true, reduceIte, nZ0, nZ1, fun a k => (jσ17 a k).1, fun a k => (jσ17 a k).2, pσ17]) <;> (first | omega | with_reducible assumption | (unfold rng; omega) | (unfold rng; (repeat' split) <;> omega) | grind)
                · (try simp only [rII, rIJ, rIP, rJJ, rJI, rJP, rPP, rPI, rPJ, g1, g2, g3, g4, g5, g6, g7, g8, Nat.reduceEqDiff, Nat.reduceAdd, false_and, and_false, true_and, and_true, reduceIte, nZ0, nZ1, fun a k => (jσ17 a k).1, fun a k => (jσ17 a k).2, pσ17]) <;> (first | omega | with_reducible assumption | (unfold rng; omega) | (unfold rng; (repeat' split) <;> omega) | grind)
              · rename_i hc138
                skip
                unfold w_X16_passUnique_141
                try simp only [forall_eq, rII, rIJ, rIP, rJJ, rJI, rJP, rPP, rPI, rPJ, g1, g2, g3, g4, g5, g6, g7, g8, Nat.reduceEqDiff, Nat.reduceAdd, false_and, and_false, true_and, and_true, reduceIte, nZ0, nZ1, fun a k => (jσ17 a k).1, fun a k => (jσ17 a k).2, pσ17]
                refine ⟨by (first | omega | with_reducible assumption | (unfold rng; omega) | (unfold rng; (repeat' split) <;> omega) | grind), ?_⟩
                refine s_X16_pass (b3 := (ra 81)) (n3 := 8) g rσ17 rfl (Or.inl ⟨81, rfl, by decide⟩) (by (try simp only [rII, rIJ, rIP, rJJ, rJI, rJP, rPP, rPI, rPJ, g1, g2, g3, g4, g5, g6, g7, g8, Nat.reduceEqDiff, Nat.reduceAdd, false_and, and_false, true_and, and_true, reduceIte, nZ0, nZ1, fun a k => (jσ17 a k).1, fun a k => (jσ17 a k).2, pσ17]) <;> (first | omega | with_reducible assumption | (unfold rng; omega) | (unfold rng; (repeat' split) <;> omega) | grind)) (by (try simp only [rII, rIJ, rIP, rJJ, rJI, rJP, rPP, rPI, rPJ, g1, g2, g3, g4, g5, g6, g7, g8, Nat.reduceEqDiff, Nat.reduceAdd, false_and, and_false, true_and, and_true, reduceIte, nZ0, nZ1, fun a k => (jσ17 a k).1, fun a k => (jσ17 a k).2, pσ17]) <;> (first | omega | with_reducible assumption | (unfold rng; omega) | (unfold rng; (repeat' split) <;> omega) | grind)) (fun σ18 _ rσ18 fc p6 => ?_) (fun σx E rx fx px => hX _ _ rx (Fr.tr fσ17 (Fr.mor (fx) (by decide) (by decide))) px)
                have fσ18 : Fr ra jx rm [81, 115, 116, 119] [117] σ σ18 := Fr.tr fσ17 (Fr.mor (fc) (by decide) (by decide))
                have jσ18 := fσ18.2.2.1
                have pσ18 := fσ18.2.2.2
                try simp only [forall_eq, rII, rIJ, rIP, rJJ, rJI, rJP, rPP, rPI, rPJ, g1, g2, g3, g4, g5, g6, g7, g8, Nat.reduceEqDiff, Nat.reduceAdd, false_and, and_false, true_and, and_true, reduceIte, nZ0, nZ1, fun a k => (jσ18 a k).1, fun a k => (jσ18 a k).2, pσ18]
                unfold w_X16_passUnique_157
                try simp only [forall_eq, rII, rIJ, rIP, rJJ, rJI, rJP, rPP, rPI, rPJ, g1, g2, g3, g4, g5, g6, g7, g8, Nat.reduceEqDiff, Nat.reduceAdd, false_and, and_false, true_and, and_true, reduceIte, nZ0, nZ1, fun a k => (jσ18 a k).1, fun a k => (jσ18 a k).2, pσ18]
                refine ⟨by (first | omega | with_reducible assumption | (unfold rng; omega) | (unfold rng; (repeat' split) <;> omega) | grind), ?_⟩
                refine ih15 _ _ ?_ ?_ ?_ ?_
                · exact rσ18
                · exact fσ18
                · (try simp only [rII, rIJ, rIP, rJJ, rJI, rJP, rPP, rPI, rPJ, g1, g2, g3, g4, g5, g6, g7, g8, Nat.reduceEqDiff, Nat.reduceAdd, false_and, and_false, true_and, and_true, reduceIte, nZ0, nZ1, fun a k => (jσ18 a k).1, fun a k => (jσ18 a k).2, pσ18]) <;> (first | omega | with_reducible assumption | (unfold rng; omega) | (unfold rng; (repeat' split) <;> omega) | grind)
                · (try simp only [rII, rIJ, rIP, rJJ, rJI, rJP, rPP, rPI, rPJ, g1, g2, g3, g4, g5, g6, g7, g8, Nat.reduceEqDiff, Nat.reduceAdd, false_and, and_false, true_and, and_true, reduceIte, nZ0, nZ1, fun a k => (jσ18 a k).1, fun a k => (jσ18 a k).2, pσ18]) <;> (first | omega | with_reducible assumption | (unfold rng; omega) | (unfold rng; (repeat' split) <;> omega) | grind)
            · rename_i hc49
              skip
              unfold w_X16_passUnique_52
              try simp only [forall_eq, rII, rIJ, rIP, rJJ, rJI, rJP, rPP, rPI, rPJ, g1, g2, g3, g4, g5, g6, g7, g8, Nat.reduceEqDiff, Nat.reduceAdd, false_and, and_false, true_and, and_true, reduceIte, nZ0, nZ1, fun a k => (jσ17 a k).1, fun a k => (jσ17 a k).2, pσ17]
              split
              · rename_i hc54
                skip
                unfold w_X16_passUnique_127
                try simp only [forall_eq, rII, rIJ, rIP, rJJ, rJI, rJP, rPP, rPI, rPJ, g1, g2, g3, g4, g5, g6, g7, g8, Nat.reduceEqDiff, Nat.reduceAdd, false_and, and_false, true_and, and_true, reduceIte, nZ0, nZ1, fun a k => (jσ17 a k).1, fun a k => (jσ17 a k).2, pσ17]
                unfold w_X16_passUnique_128
                try simp only [forall_eq, rII, rIJ, rIP, rJJ, rJI, rJP, rPP, rPI, rPJ, g1, g2, g3, g4, g5, g6, g7, g8, Nat.reduceEqDiff, Nat.reduceAdd, false_and, and_false, true_and, and_true, reduceIte, nZ0, nZ1, fun a k => (jσ17 a k).1, fun a k => (jσ17 a k).2, pσ17]
                refine ⟨by (first | omega | with_reducible assumption | (unfold rng; omega) | (unfold rng; (repeat' split) <;> omega) | grind), ?_⟩
                refine ih43 _ _ ?_ ?_
                · (try simp only [rII, rIJ, rIP, rJJ, rJI, rJP, rPP, rPI, rPJ, g1, g2, g3, g4, g5, g6, g7, g8, Nat.reduceEqDiff, Nat.reduceAdd, false_and, and_false, true_and, and_true, reduceIte, nZ0, nZ1, fun a k => (jσ17 a k).1, fun a k => (jσ17 a k).2, pσ17]) <;> (first | omega | with_reducible assumption | (unfold rng; omega) | (unfold rng; (repeat' split) <;> omega) | grind)
                · (try simp only [rII, rIJ, rIP, rJJ, rJI, rJP, rPP, rPI, rPJ, g1, g2, g3, g4, g5, g6, g7, g8, Nat.reduceEqDiff, Nat.reduceAdd, false_and, and_false, true_and, and_true, reduceIte, nZ0, nZ1, fun a k => (jσ17 a k).1, fun a k => (jσ17 a k).2, pσ17]) <;> (first | omega | with_reducible assumption | (unfold rng; omega) | (unfold rng; (repeat' split) <;> omega) | grind)
              · rename_i hc54
                skip
                unfold w_X16_passUnique_57
                try simp only [forall_eq, rII, rIJ, rIP, rJJ, rJI, rJP, rPP, rPI, rPJ, g1, g2, g3, g4, g5, g6, g7, g8, Nat.reduceEqDiff, Nat.reduceAdd, false_and, and_false, true_and, and_true, reduceIte, nZ0, nZ1, fun a k => (jσ17 a k).1, fun a k => (jσ17 a k).2, pσ17]
                refine ⟨by (first | omega | with_reducible assumption | (unfold rng; omega) | (unfold rng; (repeat' split) <;> omega) | grind), ?_⟩
                refine ⟨ja, by exact hj, hja, ?_⟩
                refine ⟨by (first | omega | with_reducible assumption | (unfold rng; omega) | (unfold rng; (repeat' split) <;> omega) | grind), ?_⟩
                have q7 := rσ.2.2.1 ja 10 (v1.toNat); simp only [rgJ] at q7
                refine ⟨by (first | omega | with_reducible assumption | (unfold rng; omega) | (unfold rng; (repeat' split) <;> omega) | grind), ?_⟩
                refine ⟨by (first | omega | with_reducible assumption | (unfold rng; omega) | (unfold rng; (repeat' split) <;> omega) | grind), ?_⟩
                refine ⟨ja, by exact hj, hja, ?_⟩
                refine ⟨by (first | omega | with_reducible assumption | (unfold rng; omega) | (unfold rng; (repeat' split) <;> omega) | grind), ?_⟩
                refine ⟨by (first | omega | with_reducible assumption | (unfold rng; omega) | (unfold rng; (repeat' split) <;> omega) | grind), ?_⟩
                split
                · rename_i hc92
                  skip
                  unfold w_X16_passUnique_123
                  try simp only [forall_eq, rII, rIJ, rIP, rJJ, rJI, rJP, rPP, rPI, rPJ, g1, g2, g3, g4, g5, g6, g7, g8, Nat.reduceEqDiff, Nat.reduceAdd, false_and, and_false, true_and, and_true, reduceIte, nZ0, nZ1, fun a k => (jσ17 a k).1, fun a k => (jσ17 a k).2, pσ17]
                  unfold w_X16_passUnique_128
                  try simp only [forall_eq, rII, rIJ, rIP, rJJ, rJI, rJP, rPP, rPI, rPJ, g1, g2, g3, g4, g5, g6, g7, g8, Nat.reduceEqDiff, Nat.reduceAdd, false_and, and_false, true_and, and_true, reduceIte, nZ0, nZ1, fun a k => (jσ17 a k).1, fun a k => (jσ17 a k).2, pσ17]
                  refine ⟨by (first | omega | with_reducible assumption | (unfold rng; omega) | (unfold rng; (repeat' split) <;> omega) | grind), ?_⟩
                  refine ih43 _ _ ?_ ?_
                  · (try simp only [rII, rIJ, rIP, rJJ, rJI, rJP, rPP, rPI, rPJ, g1, g2, g3, g4, g5, g6, g7, g8, Nat.reduceEqDiff, Nat.reduceAdd, false_and, and_false, true_and, and_true, reduceIte, nZ0, nZ1, fun a k => (jσ17 a k).1, fun a k => (jσ17 a k).2, pσ17]) <;> (first | omega | with_reducible assumption | (unfold rng; omega) | (unfold rng; (repeat' split) <;> omega) | grind)
                  · (try simp only [rII, rIJ, rIP, rJJ, rJI, rJP, rPP, rPI, rPJ, g1, g2, g3, g4, g5, g6, g7, g8, Nat.reduceEqDiff, Nat.reduceAdd, false_and, and_false, true_and, and_true, reduceIte, nZ0, nZ1, fun a k => (jσ17 a k).1, fun a k => (jσ17 a k).2, pσ17]) <;> (first | omega | with_reducible assumption | (unfold rng; omega) | (unfold rng; (repeat' split) <;> omega) | grind)
                · rename_i hc92
                  skip
                  unfold w_X16_passUnique_95
                  try simp only [forall_eq, rII, rIJ, rIP, rJJ, rJI, rJP, rPP, rPI, rPJ, g1, g2, g3, g4, g5, g6, g7, g8, Nat.reduceEqDiff, Nat.reduceAdd, false_and, and_false, true_and, and_true, reduceIte, nZ0, nZ1, fun a k => (jσ17 a k).1, fun a k => (jσ17 a k).2, pσ17]
                  refine ⟨by (first | omega | with_reducible assumption | (unfold rng; omega) | (unfold rng; (repeat' split) <;> omega) | grind), ?_⟩
                  refine ⟨by (first | omega | with_reducible assumption | (unfold rng; omega) | (unfold rng; (repeat' split) <;> omega) | grind), ?_⟩
                  refine ⟨ja, by exact hj, hja, ?_⟩
                  refine ⟨by (first | omega | with_reducible assumption | (unfold rng; omega) | (unfold rng; (repeat' split) <;> omega) | grind), ?_⟩
                  split
                  · rename_i hc120
                    skip
                    unfold w_X16_passUnique_127
                    try simp only [forall_eq, rII, rIJ, rIP, rJJ, rJI, rJP, rPP, rPI, rPJ, g1, g2, g3, g4, g5, g6, g7, g8, Nat.reduceEqDiff, Nat.reduceAdd, false_and, and_false, true_and, and_true, reduceIte, nZ0, nZ1, fun a k => (jσ17 a k).1, fun a k => (jσ17 a k).2, pσ17]
                    unfold w_X16_passUnique_128
                    try simp only [forall_eq, rII, rIJ, rIP, rJJ, rJI, rJP, rPP, rPI, rPJ, g1, g2, g3, g4, g5, g6, g7, g8, Nat.reduceEqDiff, Nat.reduceAdd, false_and, and_false, true_and, and_true, reduceIte, nZ0, nZ1, fun a k => (jσ17 a k).1, fun a k => (jσ17 a k).2, pσ17]
                    refine ⟨by (first | omega | with_reducible assumption | (unfold rng; omega) | (unfold rng; (repeat' split) <;> omega) | grind), ?_⟩
                    refine ih43 _ _ ?_ ?_
                    · (try simp only [rII, rIJ, rIP, rJJ, rJI, rJP, rPP, rPI, rPJ, g1, g2, g3, g4, g5, g6, g7, g8, Nat.reduceEqDiff, Nat.reduceAdd, false_and, and_false, true_and, and_true, reduceIte, nZ0, nZ1, fun a k => (jσ17 a k).1, fun a k => (jσ17 a k).2, pσ17]) <;> (first | omega | with_reducible assumption | (unfold rng; omega) | (unfold rng; (repeat' split) <;> omega) | grind)
                    · (try simp only [rII, rIJ, rIP, rJJ, rJI, rJP, rPP, rPI, rPJ, g1, g2, g3, g4, g5, g6, g7, g8, Nat.reduceEqDiff, Nat.reduceAdd, false_and, and_false, true_and, and_true, reduceIte, nZ0, nZ1, fun a k => (jσ17 a k).1, fun a k => (jσ17 a k).2, pσ17]) <;> (first | omega | with_reducible assumption | (unfold rng; omega) | (unfold rng; (repeat' split) <;> omega) | grind)
                  · rename_i hc120
                    skip
                    unfold w_X16_passUnique_123
                    try simp only [forall_eq, rII, rIJ, rIP, rJJ, rJI, rJP, rPP, rPI, rPJ, g1, g2, g3, g4, g5, g6, g7, g8, Nat.reduceEqDiff, Nat.reduceAdd, false_and, and_false, true_and, and_true, reduceIte, nZ0, nZ1, fun a k => (jσ17 a k).1, fun a k => (jσ17 a k).2, pσ17]
                    unfold w_X16_passUnique_128
                    try simp only [forall_eq, rII, rIJ, rIP, rJJ, rJI, rJP, rPP, rPI, rPJ, g1, g2, g3, g4, g5, g6, g7, g8, Nat.reduceEqDiff, Nat.reduceAdd, false_and, and_false, true_and, and_true, reduceIte, nZ0, nZ1, fun a k => (jσ17 a k).1, fun a k => (jσ17 a k).2, pσ17]
                    refine ⟨by (first | omega | with_reducible assumption | (unfold rng; omega) | (unfold rng; (repeat' split) <;> omega) | grind), ?_⟩
                    refine ih43 _ _ ?_ ?_
                    · (try simp only [rII, rIJ, rIP, rJJ, rJI, rJP, rPP, rPI, rPJ, g1, g2, g3, g4, g5, g6, g7, g8, Nat.reduceEqDiff, Nat.reduceAdd, false_and, and_false, true_and, and_true, reduceIte, nZ0, nZ1, fun a k => (jσ17 a k).1, fun a k => (jσ17 a k).2, pσ17]) <;> (first | omega | with_reducible assumption | (unfold rng; omega) | (unfold rng; (repeat' split) <;> omega) | grind)
                    · (try simp only [rII, rIJ, rIP, rJJ, rJI, rJP, rPP, rPI, rPJ, g1, g2, g3, g4, g5, g6, g7, g8, Nat.reduceEqDiff, Nat.reduceAdd, false_and, and_false, true_and, and_true, reduceIte, nZ0, nZ1, fun a k => (jσ17 a k).1, fun a k => (jσ17 a k).2, pσ17]) <;> (first | omega | with_reducible assumption | (unfold rng; omega) | (unfold rng; (repeat' split) <;> omega) | grind)
        refine ⟨_, L43 _ _ _ ?_ (Nat.lt_succ_self _)⟩
        · (try simp only [rII, rIJ, rIP, rJJ, rJI, rJP, rPP, rPI, rPJ, g1, g2, g3, g4, g5, g6, g7, g8, Nat.reduceEqDiff, Nat.reduceAdd, false_and, and_false, true_and, and_true, reduceIte, nZ0, nZ1, fun a k => (jσ17 a k).1, fun a k => (jσ17 a k).2, pσ17]) <;> (first | omega | with_reducible assumption | (unfold rng; omega) | (unfold rng; (repeat' split) <;> omega) | grind)
  refine ⟨_, L15 _ _ _ ?_ ?_ ?_ (Nat.lt_succ_self _)⟩
  · exact rσ15
  · exact fσ15
  · (try simp only [rII, rIJ, rIP, rJJ, rJI, rJP, rPP, rPI, rPJ, g1, g2, g3, g4, g5, g6, g7, g8, Nat.reduceEqDiff, Nat.reduceAdd, false_and, and_false, true_and, and_true, reduceIte, nZ0, nZ1, fun a k => (jσ15 a k).1, fun a k => (jσ15 a k).2, pσ15]) <;> (first | omega | with_reducible assumption | (unfold rng; omega) | (unfold rng; (repeat' split) <;> omega) | grind)
set_option maxHeartbeats 8000000 in
theorem s_X16_passEach {ra : Nat → Nat} {jx : Nat → Nat → Nat} {rm : Nat} {ja : Nat} (g : Geo ra jx rm) {σ : Sg} {v1 : Int} {v2 : Int} (rσ : Rg ra jx rm σ) (hj : gP σ rm 17 = some ja) (hja : ja = ra 15 ∨ ja = ra 16) (h1 : 0 ≤ v1 ∧ v1 < 16) (h2 : 0 ≤ v2 ∧ v2 < 16) (hk3 : gI σ (jx ja 2) v1.toNat ≠ 3 → 1 ≤ gI σ (jx ja 12) v1.toNat ∧ ∀ k, 0 ≤ k → k < gI σ (jx ja 12) v1.toNat → PO jx ja σ (gI σ (jx ja 13) (8 * v1 + k).toNat)) {Q : Sg → Unit → Prop} {X : Sg → String → Prop} (hQ : ∀ (σ' : Sg) (r : Unit), Rg ra jx rm σ' → Fr ra jx rm [20, 81, 82, 115, 116] [21, 117] σ σ' → (True) → Q σ' r) (hX : ∀ (σ' : Sg) (E : String), Rg ra jx rm σ' → Fr ra jx rm [20, 81, 82, 115, 116] [21, 117] σ σ' → (E = "StreamHouseModel$Broken") → X σ' E) : wp_X16_passEach ra jx rm v1 v2 σ Q X := by
  obtain ⟨g1, g2, g3, g4, g5, g6, g7, g8⟩ := id g
  have fσ : Fr ra jx rm [20, 81, 82, 115, 116] [21, 117] σ σ := Fr.rf
  unfold wp_X16_passEach
  unfold w_X16_passEach_0
  try simp only [forall_eq, rII, rIJ, rIP, rJJ, rJI, rJP, rPP, rPI, rPJ, g1, g2, g3, g4, g5, g6, g7, g8, Nat.reduceEqDiff, Nat.reduceAdd, false_and, and_false, true_and, and_true, reduceIte, nZ0, nZ1]
  refine ⟨by (first | omega | with_reducible assumption | (unfold rng; omega) | (unfold rng; (repeat' split) <;> omega) | grind), ?_⟩
  have q1 := rσ.1 118 (v2.toNat); simp only [rgT] at q1
  have L7 : ∀ (fu7 : Nat) (τ7 : Sg) (v3 : Int), Rg ra jx rm τ7 → Fr ra jx rm [20, 81, 82, 115, 116] [21, 117] σ τ7 → (0 ≤ v3) → ((4000 - v3).toNat) < fu7 → wl_X16_passEach_7 ra jx rm Q X fu7 τ7 v1 v2 v3 := by
    intro fu7
    induction fu7 with
    | zero => intro τ7 _ _ _ _ h9; omega
    | succ fu7 ih7 =>
      intro τ7 v3 rτ7 fτ7 hi7 hm7
      unfold wl_X16_passEach_7
      have eτ7_118 := fτ7.1 118 (by decide)
      have jτ7 := fτ7.2.2.1
      have pτ7 := fτ7.2.2.2
      unfold w_X16_passEach_7
      try simp only [forall_eq, rII, rIJ, rIP, rJJ, rJI, rJP, rPP, rPI, rPJ, g1, g2, g3, g4, g5, g6, g7, g8, Nat.reduceEqDiff, Nat.reduceAdd, false_and, and_false, true_and, and_true, reduceIte, nZ0, nZ1, eτ7_118.1, eτ7_118.2, fun a k => (jτ7 a k).1, fun a k => (jτ7 a k).2, pτ7]
      refine ⟨by (first | omega | with_reducible assumption | (unfold rng; omega) | (unfold rng; (repeat' split) <;> omega) | grind), ?_⟩
      refine ⟨by (first | omega | with_reducible assumption | (unfold rng; omega) | (unfold rng; (repeat' split) <;> omega) | grind), ?_⟩
      have q2 := rσ.1 118 ((v2 + 1).toNat); simp only [rgT] at q2
      split
      · rename_i hc16
        skip
        unfold w_X16_passEach_269
        try simp only [forall_eq, rII, rIJ, rIP, rJJ, rJI, rJP, rPP, rPI, rPJ, g1, g2, g3, g4, g5, g6, g7, g8, Nat.reduceEqDiff, Nat.reduceAdd, false_and, and_false, true_and, and_true, reduceIte, nZ0, nZ1, eτ7_118.1, eτ7_118.2, fun a k => (jτ7 a k).1, fun a k => (jτ7 a k).2, pτ7]
        refine hQ _ _ ?_ ?_ ?_
        · exact rτ7
        · exact fτ7
        · exact trivial
      · rename_i hc16
        skip
        unfold w_X16_passEach_19
        try simp only [forall_eq, rII, rIJ, rIP, rJJ, rJI, rJP, rPP, rPI, rPJ, g1, g2, g3, g4, g5, g6, g7, g8, Nat.reduceEqDiff, Nat.reduceAdd, false_and, and_false, true_and, and_true, reduceIte, nZ0, nZ1, eτ7_118.1, eτ7_118.2, fun a k => (jτ7 a k).1, fun a k => (jτ7 a k).2, pτ7]
        refine s_X16_load g rτ7 (by (try simp only [rII, rIJ, rIP, rJJ, rJI, rJP, rPP, rPI, rPJ, g1, g2, g3, g4, g5, g6, g7, g8, Nat.reduceEqDiff, Nat.reduceAdd, false_and, and_false, true_and, and_true, reduceIte, nZ0, nZ1, eτ7_118.1, eτ7_118.2, fun a k => (jτ7 a k).1, fun a k => (jτ7 a k).2, pτ7]) <;> (first | omega | with_reducible assumption | (unfold rng; omega) | (unfold rng; (repeat' split) <;> omega) | grind)) (fun σ31 _ rσ31 fc p3 => ?_)
        have fσ31 : Fr ra jx rm [20, 81, 82, 115, 116] [21, 117] σ σ31 := Fr.tr fτ7 (Fr.mor (fc) (by decide) (by decide))
        have eσ31_118 := fσ31.1 118 (by decide)
        have jσ31 := fσ31.2.2.1
        have pσ31 := fσ31.2.2.2
        try simp only [forall_eq, rII, rIJ, rIP, rJJ, rJI, rJP, rPP, rPI, rPJ, g1, g2, g3, g4, g5, g6, g7, g8, Nat.reduceEqDiff, Nat.reduceAdd, false_and, and_false, true_and, and_true, reduceIte, nZ0, nZ1, eσ31_118.1, eσ31_118.2, fun a k => (jσ31 a k).1, fun a k => (jσ31 a k).2, pσ31]
        refine ⟨ja, by exact hj, hja, ?_⟩
        refine ⟨by (first | omega | with_reducible assumption | (unfold rng; omega) | (unfold rng; (repeat' split) <;> omega) | grind), ?_⟩
        have q4 := rσ.2.2.1 ja 2 (v1.toNat); simp only [rgJ] at q4
        split
        · rename_i hc34
          skip
          unfold w_X16_passEach_55
          try simp only [forall_eq, rII, rIJ, rIP, rJJ, rJI, rJP, rPP, rPI, rPJ, g1, g2, g3, g4, g5, g6, g7, g8, Nat.reduceEqDiff, Nat.reduceAdd, false_and, and_false, true_and, and_true, reduceIte, nZ0, nZ1, eσ31_118.1, eσ31_118.2, fun a k => (jσ31 a k).1, fun a k => (jσ31 a k).2, pσ31]
          refine ⟨ja, by exact hj, hja, ?_⟩
          refine ⟨by (first | omega | with_reducible assumption | (unfold rng; omega) | (unfold rng; (repeat' split) <;> omega) | grind), ?_⟩
          split
          · rename_i hc65
            skip
            unfold w_X16_passEach_133
            try simp only [forall_eq, rII, rIJ, rIP, rJJ, rJI, rJP, rPP, rPI, rPJ, g1, g2, g3, g4, g5, g6, g7, g8, Nat.reduceEqDiff, Nat.reduceAdd, false_and, and_false, true_and, and_true, reduceIte, nZ0, nZ1, eσ31_118.1, eσ31_118.2, fun a k => (jσ31 a k).1, fun a k => (jσ31 a k).2, pσ31]
            have L139 : ∀ (fu139 : Nat) (τ139 : Sg) (v5 : Int), Rg ra jx rm τ139 → Fr ra jx rm [20, 81, 82, 115, 116] [21, 117] σ τ139 → (0 ≤ v5 ∧ v5 ≤ 8 ∧ (1 = 0 ∨ 1 = 1)) → ((8 - v5).toNat) < fu139 → wl_X16_passEach_139 ra jx rm (wl_X16_passEach_7 ra jx rm Q X fu7) Q X fu139 τ139 v1 v2 v3 1 v5 := by
              intro fu139
              induction fu139 with
              | zero => intro τ139 _ _ _ _ h9; omega
              | succ fu139 ih139 =>
                intro τ139 v5 rτ139 fτ139 hi139 hm139
                unfold wl_X16_passEach_139
                have eτ139_118 := fτ139.1 118 (by decide)
                have jτ139 := fτ139.2.2.1
                have pτ139 := fτ139.2.2.2
                unfold w_X16_passEach_139
                try simp only [forall_eq, rII, rIJ, rIP, rJJ, rJI, rJP, rPP, rPI, rPJ, g1, g2, g3, g4, g5, g6, g7, g8, Nat.reduceEqDiff, Nat.reduceAdd, false_and, and_false, true_and, and_true, reduceIte, nZ0, nZ1, eτ139_118.1, eτ139_118.2, fun a k => (jτ139 a k).1, fun a k => (jτ139 a k).2, pτ139]
                split
                · rename_i hc143
                  skip
                  unfold w_X16_passEach_160
                  try simp only [forall_eq, rII, rIJ, rIP, rJJ, rJI, rJP, rPP, rPI, rPJ, g1, g2, g3, g4, g5, g6, g7, g8, Nat.reduceEqDiff, Nat.reduceAdd, false_and, and_false, true_and, and_true, reduceIte, nZ0, nZ1, eτ139_118.1, eτ139_118.2, fun a k => (jτ139 a k).1, fun a k => (jτ139 a k).2, pτ139]
                  have q5 := rσ.2.2.1 ja 12 (v1.toNat); simp only [rgJ] at q5
                  have L163 : ∀ (fu163 : Nat) (τ163 : Sg) (v4 : Int) (v5 : Int), Rg ra jx rm τ163 → Fr ra jx rm [20, 81, 82, 115, 116] [21, 117] σ τ163 → (0 ≤ v5 ∧ v5 ≤ (gI σ (jx ja 12) v1.toNat) ∧ (v4 = 0 ∨ v4 = 1)) → (((gI σ (jx ja 12) v1.toNat) - v5).toNat) < fu163 → wl_X16_passEach_163 ra jx rm (wl_X16_passEach_7 ra jx rm Q X fu7) Q X fu163 τ163 v1 v2 v3 v4 v5 := by
                    intro fu163
                    induction fu163 with
                    | zero => intro τ163 _ _ _ _ _ h9; omega
                    | succ fu163 ih163 =>
                      intro τ163 v4 v5 rτ163 fτ163 hi163 hm163
                      unfold wl_X16_passEach_163
                      have eτ163_118 := fτ163.1 118 (by decide)
                      have jτ163 := fτ163.2.2.1
                      have pτ163 := fτ163.2.2.2
                      unfold w_X16_passEach_163
                      try simp only [forall_eq, rII, rIJ, rIP, rJJ, rJI, rJP, rPP, rPI, rPJ, g1, g2, g3, g4, g5, g6, g7, g8, Nat.reduceEqDiff, Nat.reduceAdd, false_and, and_false, true_and, and_true, reduceIte, nZ0, nZ1, eτ163_118.1, eτ163_118.2, fun a k => (jτ163 a k).1, fun a k => (jτ163 a k).2, pτ163]
                      refine ⟨ja, by exact hj, hja, ?_⟩
                      refine ⟨by (first | omega | with_reducible assumption | (unfold rng; omega) | (unfold rng; (repeat' split) <;> omega) | grind), ?_⟩
                      split
                      · rename_i hc174
                        skip
                        unfold w_X16_passEach_243
                        try simp only [forall_eq, rII, rIJ, rIP, rJJ, rJI, rJP, rPP, rPI, rPJ, g1, g2, g3, g4, g5, g6, g7, g8, Nat.reduceEqDiff, Nat.reduceAdd, false_and, and_false, true_and, and_true, reduceIte, nZ0, nZ1, eτ163_118.1, eτ163_118.2, fun a k => (jτ163 a k).1, fun a k => (jτ163 a k).2, pτ163]
                        split
                        · rename_i hc245
                          skip
                          unfold w_X16_passEach_263
                          try simp only [forall_eq, rII, rIJ, rIP, rJJ, rJI, rJP, rPP, rPI, rPJ, g1, g2, g3, g4, g5, g6, g7, g8, Nat.reduceEqDiff, Nat.reduceAdd, false_and, and_false, true_and, and_true, reduceIte, nZ0, nZ1, eτ163_118.1, eτ163_118.2, fun a k => (jτ163 a k).1, fun a k => (jτ163 a k).2, pτ163]
                          refine ⟨by (first | omega | with_reducible assumption | (unfold rng; omega) | (unfold rng; (repeat' split) <;> omega) | grind), ?_⟩
                          refine ih7 _ _ ?_ ?_ ?_ ?_
                          · exact rτ163
                          · exact fτ163
                          · (try simp only [rII, rIJ, rIP, rJJ, rJI, rJP, rPP, rPI, rPJ, g1, g2, g3, g4, g5, g6, g7, g8, Nat.reduceEqDiff, Nat.reduceAdd, false_and, and_false, true_and, and_true, reduceIte, nZ0, nZ1, eτ163_118.1, eτ163_118.2, fun a k => (jτ163 a k).1, fun a k => (jτ163 a k).2, pτ163]) <;> (first | omega | with_reducible assumption | (unfold rng; omega) | (unfold rng; (repeat' split) <;> omega) | grind)
                          · (try simp only [rII, rIJ, rIP, rJJ, rJI, rJP, rPP, rPI, rPJ, g1, g2, g3, g4, g5, g6, g7, g8, Nat.reduceEqDiff, Nat.reduceAdd, false_and, and_false, true_and, and_true, reduceIte, nZ0, nZ1, eτ163_118.1, eτ163_118.2, fun a k => (jτ163 a k).1, fun a k => (jτ163 a k).2, pτ163]) <;> (first | omega | with_reducible assumption | (unfold rng; omega) | (unfold rng; (repeat' split) <;> omega) | grind)
                        · rename_i hc245
                          skip
                          unfold w_X16_passEach_248
                          try simp only [forall_eq, rII, rIJ, rIP, rJJ, rJI, rJP, rPP, rPI, rPJ, g1, g2, g3, g4, g5, g6, g7, g8, Nat.reduceEqDiff, Nat.reduceAdd, false_and, and_false, true_and, and_true, reduceIte, nZ0, nZ1, eτ163_118.1, eτ163_118.2, fun a k => (jτ163 a k).1, fun a k => (jτ163 a k).2, pτ163]
                          refine ⟨by (first | omega | with_reducible assumption | (unfold rng; omega) | (unfold rng; (repeat' split) <;> omega) | grind), ?_⟩
                          refine s_X16_pass (b3 := (ra 82)) (n3 := 16) g rτ163 rfl (Or.inl ⟨82, rfl, by decide⟩) (by (try simp only [rII, rIJ, rIP, rJJ, rJI, rJP, rPP, rPI, rPJ, g1, g2, g3, g4, g5, g6, g7, g8, Nat.reduceEqDiff, Nat.reduceAdd, false_and, and_false, true_and, and_true, reduceIte, nZ0, nZ1, eτ163_118.1, eτ163_118.2, fun a k => (jτ163 a k).1, fun a k => (jτ163 a k).2, pτ163]) <;> (first | omega | with_reducible assumption | (unfold rng; omega) | (unfold rng; (repeat' split) <;> omega) | grind)) (by (try simp only [rII, rIJ, rIP, rJJ, rJI, rJP, rPP, rPI, rPJ, g1, g2, g3, g4, g5, g6, g7, g8, Nat.reduceEqDiff, Nat.reduceAdd, false_and, and_false, true_and, and_true, reduceIte, nZ0, nZ1, eτ163_118.1, eτ163_118.2, fun a k => (jτ163 a k).1, fun a k => (jτ163 a k).2, pτ163]) <;> (first | omega | with_reducible assumption | (unfold rng; omega) | (unfold rng; (repeat' split) <;> omega) | grind)) (fun σ35 _ rσ35 fc p6 => ?_) (fun σx E rx fx px => hX _ _ rx (Fr.tr fτ163 (Fr.mor (fx) (by decide) (by decide))) px)
                          have fσ35 : Fr ra jx rm [20, 81, 82, 115, 116] [21, 117] σ σ35 := Fr.tr fτ163 (Fr.mor (fc) (by decide) (by decide))
                          have eσ35_118 := fσ35.1 118 (by decide)
                          have jσ35 := fσ35.2.2.1
                          have pσ35 := fσ35.2.2.2
                          try simp only [forall_eq, rII, rIJ, rIP, rJJ, rJI, rJP, rPP, rPI, rPJ, g1, g2, g3, g4, g5, g6, g7, g8, Nat.reduceEqDiff, Nat.reduceAdd, false_and, and_false, true_and, and_true, reduceIte, nZ0, nZ1, eσ35_118.1, eσ35_118.2, fun a k => (jσ35 a k).1, fun a k => (jσ35 a k).2, pσ35]
                          unfold w_X16_passEach_263
                          try simp only [forall_eq, rII, rIJ, rIP, rJJ, rJI, rJP, rPP, rPI, rPJ, g1, g2, g3, g4, g5, g6, g7, g8, Nat.reduceEqDiff, Nat.reduceAdd, false_and, and_false, true_and, and_true, reduceIte, nZ0, nZ1, eσ35_118.1, eσ35_118.2, fun a k => (jσ35 a k).1, fun a k => (jσ35 a k).2, pσ35]
                          refine ⟨by (first | omega | with_reducible assumption | (unfold rng; omega) | (unfold rng; (repeat' split) <;> omega) | grind), ?_⟩
                          refine ih7 _ _ ?_ ?_ ?_ ?_
                          · exact rσ35
                          · exact fσ35
                          · (try simp only [rII, rIJ, rIP, rJJ, rJI, rJP, rPP, rPI, rPJ, g1, g2, g3, g4, g5, g6, g7, g8, Nat.reduceEqDiff, Nat.reduceAdd, false_and, and_false, true_and, and_true, reduceIte, nZ0, nZ1, eσ35_118.1, eσ35_118.2, fun a k => (jσ35 a k).1, fun a k => (jσ35 a k).2, pσ35]) <;> (first | omega | with_reducible assumption | (unfold rng; omega) | (unfold rng; (repeat' split) <;> omega) | grind)
                          · (try simp only [rII, rIJ, rIP, rJJ, rJI, rJP, rPP, rPI, rPJ, g1, g2, g3, g4, g5, g6, g7, g8, Nat.reduceEqDiff, Nat.reduceAdd, false_and, and_false, true_and, and_true, reduceIte, nZ0, nZ1, eσ35_118.1, eσ35_118.2, fun a k => (jσ35 a k).1, fun a k => (jσ35 a k).2, pσ35]) <;> (first | omega | with_reducible assumption | (unfold rng; omega) | (unfold rng; (repeat' split) <;> omega) | grind)
                      · rename_i hc174
                        skip
                        unfold w_X16_passEach_177
                        try simp only [forall_eq, rII, rIJ, rIP, rJJ, rJI, rJP, rPP, rPI, rPJ, g1, g2, g3, g4, g5, g6, g7, g8, Nat.reduceEqDiff, Nat.reduceAdd, false_and, and_false, true_and, and_true, reduceIte, nZ0, nZ1, eτ163_118.1, eτ163_118.2, fun a k => (jτ163 a k).1, fun a k => (jτ163 a k).2, pτ163]
                        split
                        · rename_i hc179
                          skip
                          unfold w_X16_passEach_243
                          try simp only [forall_eq, rII, rIJ, rIP, rJJ, rJI, rJP, rPP, rPI, rPJ, g1, g2, g3, g4, g5, g6, g7, g8, Nat.reduceEqDiff, Nat.reduceAdd, false_and, and_false, true_and, and_true, reduceIte, nZ0, nZ1, eτ163_118.1, eτ163_118.2, fun a k => (jτ163 a k).1, fun a k => (jτ163 a k).2, pτ163]
                          rw [if_pos hc179]
                          unfold w_X16_passEach_263
                          try simp only [forall_eq, rII, rIJ, rIP, rJJ, rJI, rJP, rPP, rPI, rPJ, g1, g2, g3, g4, g5, g6, g7, g8, Nat.reduceEqDiff, Nat.reduceAdd, false_and, and_false, true_and, and_true, reduceIte, nZ0, nZ1, eτ163_118.1, eτ163_118.2, fun a k => (jτ163 a k).1, fun a k => (jτ163 a k).2, pτ163]
                          refine ⟨by (first | omega | with_reducible assumption | (unfold rng; omega) | (unfold rng; (repeat' split) <;> omega) | grind), ?_⟩
                          refine ih7 _ _ ?_ ?_ ?_ ?_
                          · exact rτ163
                          · exact fτ163
                          · (try simp only [rII, rIJ, rIP, rJJ, rJI, rJP, rPP, rPI, rPJ, g1, g2, g3, g4, g5, g6, g7, g8, Nat.reduceEqDiff, Nat.reduceAdd, false_and, and_false, true_and, and_true, reduceIte, nZ0, nZ1, eτ163_118.1, eτ163_118.2, fun a k => (jτ163 a k).1, fun a k => (jτ163 a k).2, pτ163]) <;> (first | omega | with_reducible assumption | (unfold rng; omega) | (unfold rng; (repeat' split) <;> omega) | grind)
                          · (try simp only [rII, rIJ, rIP, rJJ, rJI, rJP, rPP, rPI, rPJ, g1, g2, g3, g4, g5, g6, g7, g8, Nat.reduceEqDiff, Nat.reduceAdd, false_and, and_false, true_and, and_true, reduceIte, nZ0, nZ1, eτ163_118.1, eτ163_118.2, fun a k => (jτ163 a k).1, fun a k => (jτ163 a k).2, pτ163]) <;> (first | omega | with_reducible assumption | (unfold rng; omega) | (unfold rng; (repeat' split) <;> omega) | grind)
                        · rename_i hc179
                          skip
                          unfold w_X16_passEach_182
                          try simp only [forall_eq, rII, rIJ, rIP, rJJ, rJI, rJP, rPP, rPI, rPJ, g1, g2, g3, g4, g5, g6, g7, g8, Nat.reduceEqDiff, Nat.reduceAdd, false_and, and_false, true_and, and_true, reduceIte, nZ0, nZ1, eτ163_118.1, eτ163_118.2, fun a k => (jτ163 a k).1, fun a k => (jτ163 a k).2, pτ163]
                          refine ⟨ja, by exact hj, hja, ?_⟩
                          refine ⟨by (first | omega | with_reducible assumption | (unfold rng; omega) | (unfold rng; (repeat' split) <;> omega) | grind), ?_⟩
                          refine ⟨by (first | omega | with_reducible assumption | (unfold rng; omega) | (unfold rng; (repeat' split) <;> omega) | grind), ?_⟩
                          refine ⟨by (first | omega | with_reducible assumption | (unfold rng; omega) | (unfold rng; (repeat' split) <;> omega) | grind), ?_⟩
                          refine ⟨by (first | omega | with_reducible assumption | (unfold rng; omega) | (unfold rng; (repeat' split) <;> omega) | grind), ?_⟩
                          have q7 := rσ.2.2.1 ja 13 (((8 * v1) + v5).toNat); simp only [rgJ] at q7
                          refine s_X16_worth (b5 := (ra 81)) (n5 := 8) g rτ163 rfl (Or.inl ⟨81, rfl, by decide⟩) (by first | exact hj | (rw [fτ163.2.2.2]; exact hj)) hja (by (try simp only [rII, rIJ, rIP, rJJ, rJI, rJP, rPP, rPI, rPJ, g1, g2, g3, g4, g5, g6, g7, g8, Nat.reduceEqDiff, Nat.reduceAdd, false_and, and_false, true_and, and_true, reduceIte, nZ0, nZ1, eτ163_118.1, eτ163_118.2, fun a k => (jτ163 a k).1, fun a k => (jτ163 a k).2, pτ163]) <;> first | exact PO.fr ((hk3 (by assumption)).2 v5 (by omega) (by omega)) hja fτ163 (by decide) | (have w8 := (hk3 (by assumption)).2 0 (by omega) (by omega); rw [show 8 * v1 + 0 = 8 * v1 by omega] at w8; exact PO.fr w8 hja fτ163 (by decide))) (by (try simp only [rII, rIJ, rIP, rJJ, rJI, rJP, rPP, rPI, rPJ, g1, g2, g3, g4, g5, g6, g7, g8, Nat.reduceEqDiff, Nat.reduceAdd, false_and, and_false, true_and, and_true, reduceIte, nZ0, nZ1, eτ163_118.1, eτ163_118.2, fun a k => (jτ163 a k).1, fun a k => (jτ163 a k).2, pτ163]) <;> (first | omega | with_reducible assumption | (unfold rng; omega) | (unfold rng; (repeat' split) <;> omega) | grind)) (by (try simp only [rII, rIJ, rIP, rJJ, rJI, rJP, rPP, rPI, rPJ, g1, g2, g3, g4, g5, g6, g7, g8, Nat.reduceEqDiff, Nat.reduceAdd, false_and, and_false, true_and, and_true, reduceIte, nZ0, nZ1, eτ163_118.1, eτ163_118.2, fun a k => (jτ163 a k).1, fun a k => (jτ163 a k).2, pτ163]) <;> (first | omega | with_reducible assumption | (unfold rng; omega) | (unfold rng; (repeat' split) <;> omega) | grind)) (fun σ37 r38 rσ37 fc p8 => ?_)
                          have fσ37 : Fr ra jx rm [20, 81, 82, 115, 116] [21, 117] σ σ37 := Fr.tr fτ163 (Fr.mor (fc) (by decide) (by decide))
                          have eσ37_118 := fσ37.1 118 (by decide)
                          have jσ37 := fσ37.2.2.1
                          have pσ37 := fσ37.2.2.2
                          try simp only [forall_eq, rII, rIJ, rIP, rJJ, rJI, rJP, rPP, rPI, rPJ, g1, g2, g3, g4, g5, g6, g7, g8, Nat.reduceEqDiff, Nat.reduceAdd, false_and, and_false, true_and, and_true, reduceIte, nZ0, nZ1, eσ37_118.1, eσ37_118.2, fun a k => (jσ37 a k).1, fun a k => (jσ37 a k).2, pσ37]
                          refine ⟨by (first | omega | with_reducible assumption | (unfold rng; omega) | (unfold rng; (repeat' split) <;> omega) | grind), ?_⟩
                          have q9 := rσ37.2.1 21; simp only [rgS] at q9
                          split
                          · rename_i hc227
                            skip
                            unfold w_X16_passEach_234
                            try simp only [forall_eq, rII, rIJ, rIP, rJJ, rJI, rJP, rPP, rPI, rPJ, g1, g2, g3, g4, g5, g6, g7, g8, Nat.reduceEqDiff, Nat.reduceAdd, false_and, and_false, true_and, and_true, reduceIte, nZ0, nZ1, eσ37_118.1, eσ37_118.2, fun a k => (jσ37 a k).1, fun a k => (jσ37 a k).2, pσ37]
                            unfold w_X16_passEach_235
                            try simp only [forall_eq, rII, rIJ, rIP, rJJ, rJI, rJP, rPP, rPI, rPJ, g1, g2, g3, g4, g5, g6, g7, g8, Nat.reduceEqDiff, Nat.reduceAdd, false_and, and_false, true_and, and_true, reduceIte, nZ0, nZ1, eσ37_118.1, eσ37_118.2, fun a k => (jσ37 a k).1, fun a k => (jσ37 a k).2, pσ37]
                            refine ⟨by (first | omega | with_reducible assumption | (unfold rng; omega) | (unfold rng; (repeat' split) <;> omega) | grind), ?_⟩
                            refine ih163 _ _ _ ?_ ?_ ?_ ?_
                            · refine Rg.aJ g ?_ (by simp only [rlT]; first | with_reducible assumption | omega | exact Int64.toInt_le _ | (rw [Int64.toInt_ofInt_of_le (by omega) (by omega)]; omega) | grind); exact rσ37
                            · refine Fr.aJ g ?_ (by decide); exact fσ37
                            · (try simp only [rII, rIJ, rIP, rJJ, rJI, rJP, rPP, rPI, rPJ, g1, g2, g3, g4, g5, g6, g7, g8, Nat.reduceEqDiff, Nat.reduceAdd, false_and, and_false, true_and, and_true, reduceIte, nZ0, nZ1, eσ37_118.1, eσ37_118.2, fun a k => (jσ37 a k).1, fun a k => (jσ37 a k).2, pσ37]) <;> (first | omega | with_reducible assumption | (unfold rng; omega) | (unfold rng; (repeat' split) <;> omega) | grind)
                            · (try simp only [rII, rIJ, rIP, rJJ, rJI, rJP, rPP, rPI, rPJ, g1, g2, g3, g4, g5, g6, g7, g8, Nat.reduceEqDiff, Nat.reduceAdd, false_and, and_false, true_and, and_true, reduceIte, nZ0, nZ1, eσ37_118.1, eσ37_118.2, fun a k => (jσ37 a k).1, fun a k => (jσ37 a k).2, pσ37]) <;> (first | omega | with_reducible assumption | (unfold rng; omega) | (unfold rng; (repeat' split) <;> omega) | grind)
                          · rename_i hc227
                            skip
                            unfold w_X16_passEach_230
                            try simp only [forall_eq, rII, rIJ, rIP, rJJ, rJI, rJP, rPP, rPI, rPJ, g1, g2, g3, g4, g5, g6, g7, g8, Nat.reduceEqDiff, Nat.reduceAdd, false_and, and_false, true_and, and_true, reduceIte, nZ0, nZ1, eσ37_118.1, eσ37_118.2, fun a k => (jσ37 a k).1, fun a k => (jσ37 a k).2, pσ37]
                            unfold w_X16_passEach_235
                            try simp only [forall_eq, rII, rIJ, rIP, rJJ, rJI, rJP, rPP, rPI, rPJ, g1, g2, g3, g4, g5, g6, g7, g8, Nat.reduceEqDiff, Nat.reduceAdd, false_and, and_false, true_and, and_true, reduceIte, nZ0, nZ1, eσ37_118.1, eσ37_118.2, fun a k => (jσ37 a k).1, fun a k => (jσ37 a k).2, pσ37]
                            refine ⟨by (first | omega | with_reducible assumption | (unfold rng; omega) | (unfold rng; (repeat' split) <;> omega) | grind), ?_⟩
                            refine ih163 _ _ _ ?_ ?_ ?_ ?_
                            · refine Rg.aJ g ?_ (by simp only [rlT]; first | with_reducible assumption | omega | exact Int64.toInt_le _ | (rw [Int64.toInt_ofInt_of_le (by omega) (by omega)]; omega) | grind); exact rσ37
                            · refine Fr.aJ g ?_ (by decide); exact fσ37
                            · (try simp only [rII, rIJ, rIP, rJJ, rJI, rJP, rPP, rPI, rPJ, g1, g2, g3, g4, g5, g6, g7, g8, Nat.reduceEqDiff, Nat.reduceAdd, false_and, and_false, true_and, and_true, reduceIte, nZ0, nZ1, eσ37_118.1, eσ37_118.2, fun a k => (jσ37 a k).1, fun a k => (jσ37 a k).2, pσ37]) <;> (first | omega | with_reducible assumption | (unfold rng; omega) | (unfold rng; (repeat' split) <;> omega) | grind)
                            · (try simp only [rII, rIJ, rIP, rJJ, rJI, rJP, rPP, rPI, rPJ, g1, g2, g3, g4, g5, g6, g7, g8, Nat.reduceEqDiff, Nat.reduceAdd, false_and, and_false, true_and, and_true, reduceIte, nZ0, nZ1, eσ37_118.1, eσ37_118.2, fun a k => (jσ37 a k).1, fun a k => (jσ37 a k).2, pσ37]) <;> (first | omega | with_reducible assumption | (unfold rng; omega) | (unfold rng; (repeat' split) <;> omega) | grind)
                  refine ⟨_, L163 _ _ _ _ ?_ ?_ ?_ (Nat.lt_succ_self _)⟩
                  · exact rτ139
                  · exact fτ139
                  · (try simp only [rII, rIJ, rIP, rJJ, rJI, rJP, rPP, rPI, rPJ, g1, g2, g3, g4, g5, g6, g7, g8, Nat.reduceEqDiff, Nat.reduceAdd, false_and, and_false, true_and, and_true, reduceIte, nZ0, nZ1, eτ139_118.1, eτ139_118.2, fun a k => (jτ139 a k).1, fun a k => (jτ139 a k).2, pτ139]) <;> (first | omega | with_reducible assumption | (unfold rng; omega) | (unfold rng; (repeat' split) <;> omega) | grind)
                · rename_i hc143
                  skip
                  unfold w_X16_passEach_146
                  try simp only [forall_eq, rII, rIJ, rIP, rJJ, rJI, rJP, rPP, rPI, rPJ, g1, g2, g3, g4, g5, g6, g7, g8, Nat.reduceEqDiff, Nat.reduceAdd, false_and, and_false, true_and, and_true, reduceIte, nZ0, nZ1, eτ139_118.1, eτ139_118.2, fun a k => (jτ139 a k).1, fun a k => (jτ139 a k).2, pτ139]
                  refine ⟨by (first | omega | with_reducible assumption | (unfold rng; omega) | (unfold rng; (repeat' split) <;> omega) | grind), ?_⟩
                  refine ⟨by (first | omega | with_reducible assumption | (unfold rng; omega) | (unfold rng; (repeat' split) <;> omega) | grind), ?_⟩
                  refine ih139 _ _ ?_ ?_ ?_ ?_
                  · refine Rg.aJ g ?_ (by simp only [rlT]; first | with_reducible assumption | omega | exact Int64.toInt_le _ | (rw [Int64.toInt_ofInt_of_le (by omega) (by omega)]; omega) | grind); exact rτ139
                  · refine Fr.aJ g ?_ (by decide); exact fτ139
                  · (try simp only [rII, rIJ, rIP, rJJ, rJI, rJP, rPP, rPI, rPJ, g1, g2, g3, g4, g5, g6, g7, g8, Nat.reduceEqDiff, Nat.reduceAdd, false_and, and_false, true_and, and_true, reduceIte, nZ0, nZ1, eτ139_118.1, eτ139_118.2, fun a k => (jτ139 a k).1, fun a k => (jτ139 a k).2, pτ139]) <;> (first | omega | with_reducible assumption | (unfold rng; omega) | (unfold rng; (repeat' split) <;> omega) | grind)
                  · (try simp only [rII, rIJ, rIP, rJJ, rJI, rJP, rPP, rPI, rPJ, g1, g2, g3, g4, g5, g6, g7, g8, Nat.reduceEqDiff, Nat.reduceAdd, false_and, and_false, true_and, and_true, reduceIte, nZ0, nZ1, eτ139_118.1, eτ139_118.2, fun a k => (jτ139 a k).1, fun a k => (jτ139 a k).2, pτ139]) <;> (first | omega | with_reducible assumption | (unfold rng; omega) | (unfold rng; (repeat' split) <;> omega) | grind)
            refine ⟨_, L139 _ _ _ ?_ ?_ ?_ (Nat.lt_succ_self _)⟩
            · exact rσ31
            · exact fσ31
            · (try simp only [rII, rIJ, rIP, rJJ, rJI, rJP, rPP, rPI, rPJ, g1, g2, g3, g4, g5, g6, g7, g8, Nat.reduceEqDiff, Nat.reduceAdd, false_and, and_false, true_and, and_true, reduceIte, nZ0, nZ1, eσ31_118.1, eσ31_118.2, fun a k => (jσ31 a k).1, fun a k => (jσ31 a k).2, pσ31]) <;> (first | omega | with_reducible assumption | (unfold rng; omega) | (unfold rng; (repeat' split) <;> omega) | grind)
          · rename_i hc65
            skip
            unfold w_X16_passEach_68
            try simp only [forall_eq, rII, rIJ, rIP, rJJ, rJI, rJP, rPP, rPI, rPJ, g1, g2, g3, g4, g5, g6, g7, g8, Nat.reduceEqDiff, Nat.reduceAdd, false_and, and_false, true_and, and_true, reduceIte, nZ0, nZ1, eσ31_118.1, eσ31_118.2, fun a k => (jσ31 a k).1, fun a k => (jσ31 a k).2, pσ31]
            refine ⟨ja, by exact hj, hja, ?_⟩
            refine ⟨by (first | omega | with_reducible assumption | (unfold rng; omega) | (unfold rng; (repeat' split) <;> omega) | grind), ?_⟩
            refine ⟨by (first | omega | with_reducible assumption | (unfold rng; omega) | (unfold rng; (repeat' split) <;> omega) | grind), ?_⟩
            refine ⟨by (first | omega | with_reducible assumption | (unfold rng; omega) | (unfold rng; (repeat' split) <;> omega) | grind), ?_⟩
            have q10 := rσ.2.2.1 ja 13 ((8 * v1).toNat); simp only [rgJ] at q10
            refine s_X16_worth (b5 := (ra 81)) (n5 := 8) g rσ31 rfl (Or.inl ⟨81, rfl, by decide⟩) (by first | exact hj | (rw [fσ31.2.2.2]; exact hj)) hja (by (try simp only [rII, rIJ, rIP, rJJ, rJI, rJP, rPP, rPI, rPJ, g1, g2, g3, g4, g5, g6, g7, g8, Nat.reduceEqDiff, Nat.reduceAdd, false_and, and_false, true_and, and_true, reduceIte, nZ0, nZ1, eσ31_118.1, eσ31_118.2, fun a k => (jσ31 a k).1, fun a k => (jσ31 a k).2, pσ31]) <;> first | exact PO.fr ((hk3 (by assumption)).2 v5 (by omega) (by omega)) hja fσ31 (by decide) | (have w8 := (hk3 (by assumption)).2 0 (by omega) (by omega); rw [show 8 * v1 + 0 = 8 * v1 by omega] at w8; exact PO.fr w8 hja fσ31 (by decide))) (by (try simp only [rII, rIJ, rIP, rJJ, rJI, rJP, rPP, rPI, rPJ, g1, g2, g3, g4, g5, g6, g7, g8, Nat.reduceEqDiff, Nat.reduceAdd, false_and, and_false, true_and, and_true, reduceIte, nZ0, nZ1, eσ31_118.1, eσ31_118.2, fun a k => (jσ31 a k).1, fun a k => (jσ31 a k).2, pσ31]) <;> (first | omega | with_reducible assumption | (unfold rng; omega) | (unfold rng; (repeat' split) <;> omega) | grind)) (by (try simp only [rII, rIJ, rIP, rJJ, rJI, rJP, rPP, rPI, rPJ, g1, g2, g3, g4, g5, g6, g7, g8, Nat.reduceEqDiff, Nat.reduceAdd, false_and, and_false, true_and, and_true, reduceIte, nZ0, nZ1, eσ31_118.1, eσ31_118.2, fun a k => (jσ31 a k).1, fun a k => (jσ31 a k).2, pσ31]) <;> (first | omega | with_reducible assumption | (unfold rng; omega) | (unfold rng; (repeat' split) <;> omega) | grind)) (fun σ42 r43 rσ42 fc p11 => ?_)
            have fσ42 : Fr ra jx rm [20, 81, 82, 115, 116] [21, 117] σ σ42 := Fr.tr fσ31 (Fr.mor (fc) (by decide) (by decide))
            have eσ42_118 := fσ42.1 118 (by decide)
            have jσ42 := fσ42.2.2.1
            have pσ42 := fσ42.2.2.2
            try simp only [forall_eq, rII, rIJ, rIP, rJJ, rJI, rJP, rPP, rPI, rPJ, g1, g2, g3, g4, g5, g6, g7, g8, Nat.reduceEqDiff, Nat.reduceAdd, false_and, and_false, true_and, and_true, reduceIte, nZ0, nZ1, eσ42_118.1, eσ42_118.2, fun a k => (jσ42 a k).1, fun a k => (jσ42 a k).2, pσ42]
            have q12 := rσ42.2.1 21; simp only [rgS] at q12
            split
            · rename_i hc105
              skip
              unfold w_X16_passEach_130
              try simp only [forall_eq, rII, rIJ, rIP, rJJ, rJI, rJP, rPP, rPI, rPJ, g1, g2, g3, g4, g5, g6, g7, g8, Nat.reduceEqDiff, Nat.reduceAdd, false_and, and_false, true_and, and_true, reduceIte, nZ0, nZ1, eσ42_118.1, eσ42_118.2, fun a k => (jσ42 a k).1, fun a k => (jσ42 a k).2, pσ42]
              unfold w_X16_passEach_263
              try simp only [forall_eq, rII, rIJ, rIP, rJJ, rJI, rJP, rPP, rPI, rPJ, g1, g2, g3, g4, g5, g6, g7, g8, Nat.reduceEqDiff, Nat.reduceAdd, false_and, and_false, true_and, and_true, reduceIte, nZ0, nZ1, eσ42_118.1, eσ42_118.2, fun a k => (jσ42 a k).1, fun a k => (jσ42 a k).2, pσ42]
              refine ⟨by (first | omega | with_reducible assumption | (unfold rng; omega) | (unfold rng; (repeat' split) <;> omega) | grind), ?_⟩
              refine ih7 _ _ ?_ ?_ ?_ ?_
              · exact rσ42
              · exact fσ42
              · (try simp only [rII, rIJ, rIP, rJJ, rJI, rJP, rPP, rPI, rPJ, g1, g2, g3, g4, g5, g6, g7, g8, Nat.reduceEqDiff, Nat.reduceAdd, false_and, and_false, true_and, and_true, reduceIte, nZ0, nZ1, eσ42_118.1, eσ42_118.2, fun a k => (jσ42 a k).1, fun a k => (jσ42 a k).2, pσ42]) <;> (first | omega | with_reducible assumption | (unfold rng; omega) | (unfold rng; (repeat' split) <;> omega) | grind)
              · (try simp only [rII, rIJ, rIP, rJJ, rJI, rJP, rPP, rPI, rPJ, g1, g2, g3, g4, g5, g6, g7, g8, Nat.reduceEqDiff, Nat.reduceAdd, false_and, and_false, true_and, and_true, reduceIte, nZ0, nZ1, eσ42_118.1, eσ42_118.2, fun a k => (jσ42 a k).1, fun a k => (jσ42 a k).2, pσ42]) <;> (first | omega | with_reducible assumption | (unfold rng; omega) | (unfold rng; (repeat' split) <;> omega) | grind)
            · rename_i hc105
              skip
              unfold w_X16_passEach_108
              try simp only [forall_eq, rII, rIJ, rIP, rJJ, rJI, rJP, rPP, rPI, rPJ, g1, g2, g3, g4, g5, g6, g7, g8, Nat.reduceEqDiff, Nat.reduceAdd, false_and, and_false, true_and, and_true, reduceIte, nZ0, nZ1, eσ42_118.1, eσ42_118.2, fun a k => (jσ42 a k).1, fun a k => (jσ42 a k).2, pσ42]
              split
              · rename_i hc112
                skip
                unfold w_X16_passEach_130
                try simp only [forall_eq, rII, rIJ, rIP, rJJ, rJI, rJP, rPP, rPI, rPJ, g1, g2, g3, g4, g5, g6, g7, g8, Nat.reduceEqDiff, Nat.reduceAdd, false_and, and_false, true_and, and_true, reduceIte, nZ0, nZ1, eσ42_118.1, eσ42_118.2, fun a k => (jσ42 a k).1, fun a k => (jσ42 a k).2, pσ42]
                unfold w_X16_passEach_263
                try simp only [forall_eq, rII, rIJ, rIP, rJJ, rJI, rJP, rPP, rPI, rPJ, g1, g2, g3, g4, g5, g6, g7, g8, Nat.reduceEqDiff, Nat.reduceAdd, false_and, and_false, true_and, and_true, reduceIte, nZ0, nZ1, eσ42_118.1, eσ42_118.2, fun a k => (jσ42 a k).1, fun a k => (jσ42 a k).2, pσ42]
                refine ⟨by (first | omega | with_reducible assumption | (unfold rng; omega) | (unfold rng; (repeat' split) <;> omega) | grind), ?_⟩
                refine ih7 _ _ ?_ ?_ ?_ ?_
                · exact rσ42
                · exact fσ42
                · (try simp only [rII, rIJ, rIP, rJJ, rJI, rJP, rPP, rPI, rPJ, g1, g2, g3, g4, g5, g6, g7, g8, Nat.reduceEqDiff, Nat.reduceAdd, false_and, and_false, true_and, and_true, reduceIte, nZ0, nZ1, eσ42_118.1, eσ42_118.2, fun a k => (jσ42 a k).1, fun a k => (jσ42 a k).2, pσ42]) <;> (first | omega | with_reducible assumption | (unfold rng; omega) | (unfold rng; (repeat' split) <;> omega) | grind)
                · (try simp only [rII, rIJ, rIP, rJJ, rJI, rJP, rPP, rPI, rPJ, g1, g2, g3, g4, g5, g6, g7, g8, Nat.reduceEqDiff, Nat.reduceAdd, false_and, and_false, true_and, and_true, reduceIte, nZ0, nZ1, eσ42_118.1, eσ42_118.2, fun a k => (jσ42 a k).1, fun a k => (jσ42 a k).2, pσ42]) <;> (first | omega | with_reducible assumption | (unfold rng; omega) | (unfold rng; (repeat' split) <;> omega) | grind)
              · rename_i hc112
                skip
                unfold w_X16_passEach_115
                try simp only [forall_eq, rII, rIJ, rIP, rJJ, rJI, rJP, rPP, rPI, rPJ, g1, g2, g3, g4, g5, g6, g7, g8, Nat.reduceEqDiff, Nat.reduceAdd, false_and, and_false, true_and, and_true, reduceIte, nZ0, nZ1, eσ42_118.1, eσ42_118.2, fun a k => (jσ42 a k).1, fun a k => (jσ42 a k).2, pσ42]
                refine ⟨by (first | omega | with_reducible assumption | (unfold rng; omega) | (unfold rng; (repeat' split) <;> omega) | grind), ?_⟩
                refine s_X16_pass (b3 := (ra 81)) (n3 := 8) g rσ42 rfl (Or.inl ⟨81, rfl, by decide⟩) (by (try simp only [rII, rIJ, rIP, rJJ, rJI, rJP, rPP, rPI, rPJ, g1, g2, g3, g4, g5, g6, g7, g8, Nat.reduceEqDiff, Nat.reduceAdd, false_and, and_false, true_and, and_true, reduceIte, nZ0, nZ1, eσ42_118.1, eσ42_118.2, fun a k => (jσ42 a k).1, fun a k => (jσ42 a k).2, pσ42]) <;> (first | omega | with_reducible assumption | (unfold rng; omega) | (unfold rng; (repeat' split) <;> omega) | grind)) (by (try simp only [rII, rIJ, rIP, rJJ, rJI, rJP, rPP, rPI, rPJ, g1, g2, g3, g4, g5, g6, g7, g8, Nat.reduceEqDiff, Nat.reduceAdd, false_and, and_false, true_and, and_true, reduceIte, nZ0, nZ1, eσ42_118.1, eσ42_118.2, fun a k => (jσ42 a k).1, fun a k => (jσ42 a k).2, pσ42]) <;> (first | omega | with_reducible assumption | (unfold rng; omega) | (unfold rng; (repeat' split) <;> omega) | grind)) (fun σ44 _ rσ44 fc p13 => ?_) (fun σx E rx fx px => hX _ _ rx (Fr.tr fσ42 (Fr.mor (fx) (by decide) (by decide))) px)
                have fσ44 : Fr ra jx rm [20, 81, 82, 115, 116] [21, 117] σ σ44 := Fr.tr fσ42 (Fr.mor (fc) (by decide) (by decide))
                have eσ44_118 := fσ44.1 118 (by decide)
                have jσ44 := fσ44.2.2.1
                have pσ44 := fσ44.2.2.2
                try simp only [forall_eq, rII, rIJ, rIP, rJJ, rJI, rJP, rPP, rPI, rPJ, g1, g2, g3, g4, g5, g6, g7, g8, Nat.reduceEqDiff, Nat.reduceAdd, false_and, and_false, true_and, and_true, reduceIte, nZ0, nZ1, eσ44_118.1, eσ44_118.2, fun a k => (jσ44 a k).1, fun a k => (jσ44 a k).2, pσ44]
                unfold w_X16_passEach_130
                try simp only [forall_eq, rII, rIJ, rIP, rJJ, rJI, rJP, rPP, rPI, rPJ, g1, g2, g3, g4, g5, g6, g7, g8, Nat.reduceEqDiff, Nat.reduceAdd, false_and, and_false, true_and, and_true, reduceIte, nZ0, nZ1, eσ44_118.1, eσ44_118.2, fun a k => (jσ44 a k).1, fun a k => (jσ44 a k).2, pσ44]
                unfold w_X16_passEach_263
                try simp only [forall_eq, rII, rIJ, rIP, rJJ, rJI, rJP, rPP, rPI, rPJ, g1, g2, g3, g4, g5, g6, g7, g8, Nat.reduceEqDiff, Nat.reduceAdd, false_and, and_false, true_and, and_true, reduceIte, nZ0, nZ1, eσ44_118.1, eσ44_118.2, fun a k => (jσ44 a k).1, fun a k => (jσ44 a k).2, pσ44]
                refine ⟨by (first | omega | with_reducible assumption | (unfold rng; omega) | (unfold rng; (repeat' split) <;> omega) | grind), ?_⟩
                refine ih7 _ _ ?_ ?_ ?_ ?_
                · exact rσ44
                · exact fσ44
                · (try simp only [rII, rIJ, rIP, rJJ, rJI, rJP, rPP, rPI, rPJ, g1, g2, g3, g4, g5, g6, g7, g8, Nat.reduceEqDiff, Nat.reduceAdd, false_and, and_false, true_and, and_true, reduceIte, nZ0, nZ1, eσ44_118.1, eσ44_118.2, fun a k => (jσ44 a k).1, fun a k => (jσ44 a k).2, pσ44]) <;> (first | omega | with_reducible assumption | (unfold rng; omega) | (unfold rng; (repeat' split) <;> omega) | grind)
                · (try simp only [rII, rIJ, rIP, rJJ, rJI, rJP, rPP, rPI, rPJ, g1, g2, g3, g4, g5, g6, g7, g8, Nat.reduceEqDiff, Nat.reduceAdd, false_and, and_false, true_and, and_true, reduceIte, nZ0, nZ1, eσ44_118.1, eσ44_118.2, fun a k => (jσ44 a k).1, fun a k => (jσ44 a k).2, pσ44]) <;> (first | omega | with_reducible assumption | (unfold rng; omega) | (unfold rng; (repeat' split) <;> omega) | grind)
        · rename_i hc34
          skip
          unfold w_X16_passEach_37
          try simp only [forall_eq, rII, rIJ, rIP, rJJ, rJI, rJP, rPP, rPI, rPJ, g1, g2, g3, g4, g5, g6, g7, g8, Nat.reduceEqDiff, Nat.reduceAdd, false_and, and_false, true_and, and_true, reduceIte, nZ0, nZ1, eσ31_118.1, eσ31_118.2, fun a k => (jσ31 a k).1, fun a k => (jσ31 a k).2, pσ31]
          refine ⟨by (first | omega | with_reducible assumption | (unfold rng; omega) | (unfold rng; (repeat' split) <;> omega) | grind), ?_⟩
          refine s_X16_pass (b3 := (ra 81)) (n3 := 8) g rσ31 rfl (Or.inl ⟨81, rfl, by decide⟩) (by (try simp only [rII, rIJ, rIP, rJJ, rJI, rJP, rPP, rPI, rPJ, g1, g2, g3, g4, g5, g6, g7, g8, Nat.reduceEqDiff, Nat.reduceAdd, false_and, and_false, true_and, and_true, reduceIte, nZ0, nZ1, eσ31_118.1, eσ31_118.2, fun a k => (jσ31 a k).1, fun a k => (jσ31 a k).2, pσ31]) <;> (first | omega | with_reducible assumption | (unfold rng; omega) | (unfold rng; (repeat' split) <;> omega) | grind)) (by (try simp only [rII, rIJ, rIP, rJJ, rJI, rJP, rPP, rPI, rPJ, g1, g2, g3, g4, g5, g6, g7, g8, Nat.reduceEqDiff, Nat.reduceAdd, false_and, and_false, true_and, and_true, reduceIte, nZ0, nZ1, eσ31_118.1, eσ31_118.2, fun a k => (jσ31 a k).1, fun a k => (jσ31 a k).2, pσ31]) <;> (first | omega | with_reducible assumption | (unfold rng; omega) | (unfold rng; (repeat' split) <;> omega) | grind)) (fun σ45 _ rσ45 fc p14 => ?_) (fun σx E rx fx px => hX _ _ rx (Fr.tr fσ31 (Fr.mor (fx) (by decide) (by decide))) px)
          have fσ45 : Fr ra jx rm [20, 81, 82, 115, 116] [21, 117] σ σ45 := Fr.tr fσ31 (Fr.mor (fc) (by decide) (by decide))
          have eσ45_118 := fσ45.1 118 (by decide)
          have jσ45 := fσ45.2.2.1
          have pσ45 := fσ45.2.2.2
          try simp only [forall_eq, rII, rIJ, rIP, rJJ, rJI, rJP, rPP, rPI, rPJ, g1, g2, g3, g4, g5, g6, g7, g8, Nat.reduceEqDiff, Nat.reduceAdd, false_and, and_false, true_and, and_true, reduceIte, nZ0, nZ1, eσ45_118.1, eσ45_118.2, fun a k => (jσ45 a k).1, fun a k => (jσ45 a k).2, pσ45]
          unfold w_X16_passEach_263
          try simp only [forall_eq, rII, rIJ, rIP, rJJ, rJI, rJP, rPP, rPI, rPJ, g1, g2, g3, g4, g5, g6, g7, g8, Nat.reduceEqDiff, Nat.reduceAdd, false_and, and_false, true_and, and_true, reduceIte, nZ0, nZ1, eσ45_118.1, eσ45_118.2, fun a k => (jσ45 a k).1, fun a k => (jσ45 a k).2, pσ45]
          refine ⟨by (first | omega | with_reducible assumption | (unfold rng; omega) | (unfold rng; (repeat' split) <;> omega) | grind), ?_⟩
          refine ih7 _ _ ?_ ?_ ?_ ?_
          · exact rσ45
          · exact fσ45
          · (try simp only [rII, rIJ, rIP, rJJ, rJI, rJP, rPP, rPI, rPJ, g1, g2, g3, g4, g5, g6, g7, g8, Nat.reduceEqDiff, Nat.reduceAdd, false_and, and_false, true_and, and_true, reduceIte, nZ0, nZ1, eσ45_118.1, eσ45_118.2, fun a k => (jσ45 a k).1, fun a k => (jσ45 a k).2, pσ45]) <;> (first | omega | with_reducible assumption | (unfold rng; omega) | (unfold rng; (repeat' split) <;> omega) | grind)
          · (try simp only [rII, rIJ, rIP, rJJ, rJI, rJP, rPP, rPI, rPJ, g1, g2, g3, g4, g5, g6, g7, g8, Nat.reduceEqDiff, Nat.reduceAdd, false_and, and_false, true_and, and_true, reduceIte, nZ0, nZ1, eσ45_118.1, eσ45_118.2, fun a k => (jσ45 a k).1, fun a k => (jσ45 a k).2, pσ45]) <;> (first | omega | with_reducible assumption | (unfold rng; omega) | (unfold rng; (repeat' split) <;> omega) | grind)
  refine ⟨_, L7 _ _ _ ?_ ?_ ?_ (Nat.lt_succ_self _)⟩
  · exact rσ
  · exact fσ
  · (try simp only [rII, rIJ, rIP, rJJ, rJI, rJP, rPP, rPI, rPJ, g1, g2, g3, g4, g5, g6, g7, g8, Nat.reduceEqDiff, Nat.reduceAdd, false_and, and_false, true_and, and_true, reduceIte, nZ0, nZ1]) <;> (first | omega | with_reducible assumption | (unfold rng; omega) | (unfold rng; (repeat' split) <;> omega) | grind)
set_option maxHeartbeats 2000000 in
theorem s_X16_matchOne {ra : Nat → Nat} {jx : Nat → Nat → Nat} {rm : Nat} {ja : Nat} (g : Geo ra jx rm) {σ : Sg} {v1 : Int} {v2 : Int64} {v4 : Int64} {v6 : Int} (rσ : Rg ra jx rm σ) (hj : gP σ rm 17 = some ja) (hja : ja = ra 15 ∨ ja = ra 16) (h1 : 0 ≤ v1 ∧ v1 < 16) (h6 : 0 ≤ v6 ∧ v6 < 4000) (hvs : ∀ k, 0 ≤ k → k < gI σ (jx ja 12) v1.toNat → PO jx ja σ (gI σ (jx ja 13) (8 * v1 + k).toNat)) (hva : 2 ≤ gI σ (jx ja 12) v1.toNat) (hps : ∀ i : Nat, (i : Int) < v6 → gI σ (ra 122) i < gI σ (jx ja 12) v1.toNat) {Q : Sg → Int → Prop} {X : Sg → String → Prop} (hQ : ∀ (σ' : Sg) (r : Int), Rg ra jx rm σ' → Fr ra jx rm [20, 82, 115, 116, 121, 122] [21, 117] σ σ' → (0 ≤ r ∧ r ≤ v6 + 1 ∧ (∀ i : Nat, (i : Int) < r → gI σ' (ra 122) i < gI σ (jx ja 12) v1.toNat)) → Q σ' r) (hX : ∀ (σ' : Sg) (E : String), Rg ra jx rm σ' → Fr ra jx rm [20, 82, 115, 116, 121, 122] [21, 117] σ σ' → (E = "StreamHouseModel$Broken") → X σ' E) : wp_X16_matchOne ra jx rm v1 v2 v4 v6 σ Q X := by
  obtain ⟨g1, g2, g3, g4, g5, g6, g7, g8⟩ := id g
  have fσ : Fr ra jx rm [20, 82, 115, 116, 121, 122] [21, 117] σ σ := Fr.rf
  unfold wp_X16_matchOne
  unfold w_X16_matchOne_0
  try simp only [forall_eq, rII, rIJ, rIP, rJJ, rJI, rJP, rPP, rPI, rPJ, g1, g2, g3, g4, g5, g6, g7, g8, Nat.reduceEqDiff, Nat.reduceAdd, false_and, and_false, true_and, and_true, reduceIte, nZ0, nZ1]
  have q1 := rσ.2.2.1 ja 12 (v1.toNat); simp only [rgJ] at q1
  have L6 : ∀ (fu6 : Nat) (τ6 : Sg) (v7 : Int) (v8 : Int), Rg ra jx rm τ6 → Fr ra jx rm [20, 82, 115, 116, 121, 122] [21, 117] σ τ6 → (0 ≤ v8 ∧ v8 ≤ v6 ∧ 0 ≤ v7 ∧ v7 ≤ v8 ∧ (∀ i : Nat, (i : Int) < v7 ∨ v8 ≤ (i : Int) ∧ (i : Int) < v6 → gI τ6 (ra 122) i < gI σ (jx ja 12) v1.toNat)) → ((v6 - v8).toNat) < fu6 → wl_X16_matchOne_6 ra jx rm Q X fu6 τ6 v1 v2 v4 v6 v7 v8 := by
    intro fu6
    induction fu6 with
    | zero => intro τ6 _ _ _ _ _ h9; omega
    | succ fu6 ih6 =>
      intro τ6 v7 v8 rτ6 fτ6 hi6 hm6
      unfold wl_X16_matchOne_6
      have jτ6 := fτ6.2.2.1
      have pτ6 := fτ6.2.2.2
      unfold w_X16_matchOne_6
      try simp only [forall_eq, rII, rIJ, rIP, rJJ, rJI, rJP, rPP, rPI, rPJ, g1, g2, g3, g4, g5, g6, g7, g8, Nat.reduceEqDiff, Nat.reduceAdd, false_and, and_false, true_and, and_true, reduceIte, nZ0, nZ1, fun a k => (jτ6 a k).1, fun a k => (jτ6 a k).2, pτ6]
      have hw9 := hi6.2.2.2.2
      have i61 := hi6.1; have i62 := hi6.2.1; have i63 := hi6.2.2.1; have i64 := hi6.2.2.2.1; clear hi6
      split
      · rename_i hc10
        skip
        unfold w_X16_matchOne_205
        try simp only [forall_eq, rII, rIJ, rIP, rJJ, rJI, rJP, rPP, rPI, rPJ, g1, g2, g3, g4, g5, g6, g7, g8, Nat.reduceEqDiff, Nat.reduceAdd, false_and, and_false, true_and, and_true, reduceIte, nZ0, nZ1, fun a k => (jτ6 a k).1, fun a k => (jτ6 a k).2, pτ6]
        refine ⟨ja, by exact hj, hja, ?_⟩
        refine ⟨by (first | omega | with_reducible assumption | (unfold rng; omega) | (unfold rng; (repeat' split) <;> omega)), ?_⟩
        refine ⟨by (first | omega | with_reducible assumption | (unfold rng; omega) | (unfold rng; (repeat' split) <;> omega)), ?_⟩
        have q2 := rσ.2.2.1 ja 13 ((8 * v1).toNat); simp only [rgJ] at q2
        refine s_X16_worth (b5 := (ra 81)) (n5 := 8) g rτ6 rfl (Or.inl ⟨81, rfl, by decide⟩) (by first | exact hj | (rw [fτ6.2.2.2]; exact hj)) hja (by (try simp only [rII, rIJ, rIP, rJJ, rJI, rJP, rPP, rPI, rPJ, g1, g2, g3, g4, g5, g6, g7, g8, Nat.reduceEqDiff, Nat.reduceAdd, false_and, and_false, true_and, and_true, reduceIte, nZ0, nZ1, fun a k => (jτ6 a k).1, fun a k => (jτ6 a k).2, pτ6]) <;> first | exact PO.fr (hvs _ (by omega) (by omega)) hja fτ6 (by decide) | (have w8 := hvs 0 (by omega) (by omega); rw [show 8 * v1 + 0 = 8 * v1 by omega] at w8; exact PO.fr w8 hja fτ6 (by decide))) (by (try simp only [rII, rIJ, rIP, rJJ, rJI, rJP, rPP, rPI, rPJ, g1, g2, g3, g4, g5, g6, g7, g8, Nat.reduceEqDiff, Nat.reduceAdd, false_and, and_false, true_and, and_true, reduceIte, nZ0, nZ1, fun a k => (jτ6 a k).1, fun a k => (jτ6 a k).2, pτ6]) <;> (first | omega | with_reducible assumption | (unfold rng; omega) | (unfold rng; (repeat' split) <;> omega))) (by (try simp only [rII, rIJ, rIP, rJJ, rJI, rJP, rPP, rPI, rPJ, g1, g2, g3, g4, g5, g6, g7, g8, Nat.reduceEqDiff, Nat.reduceAdd, false_and, and_false, true_and, and_true, reduceIte, nZ0, nZ1, fun a k => (jτ6 a k).1, fun a k => (jτ6 a k).2, pτ6]) <;> (first | omega | with_reducible assumption | (unfold rng; omega) | (unfold rng; (repeat' split) <;> omega))) (fun σ36 r37 rσ36 fc p3 => ?_)
        have fσ36 : Fr ra jx rm [20, 82, 115, 116, 121, 122] [21, 117] σ σ36 := Fr.tr fτ6 (Fr.mor (fc) (by decide) (by decide))
        have hx9 := fun i : Nat => congrFun (fc.1 122 (by decide)).1 i
        have hw9 : ∀ i : Nat, (i : Int) < v7 ∨ v8 ≤ (i : Int) ∧ (i : Int) < v6 → gI σ36 (ra 122) i < gI σ (jx ja 12) v1.toNat := fun i hi => by rw [hx9]; exact hw9 i hi
        have jσ36 := fσ36.2.2.1
        have pσ36 := fσ36.2.2.2
        try simp only [forall_eq, rII, rIJ, rIP, rJJ, rJI, rJP, rPP, rPI, rPJ, g1, g2, g3, g4, g5, g6, g7, g8, Nat.reduceEqDiff, Nat.reduceAdd, false_and, and_false, true_and, and_true, reduceIte, nZ0, nZ1, fun a k => (jσ36 a k).1, fun a k => (jσ36 a k).2, pσ36]
        split
        · rename_i hc234
          skip
          unfold w_X16_matchOne_257
          try simp only [forall_eq, rII, rIJ, rIP, rJJ, rJI, rJP, rPP, rPI, rPJ, g1, g2, g3, g4, g5, g6, g7, g8, Nat.reduceEqDiff, Nat.reduceAdd, false_and, and_false, true_and, and_true, reduceIte, nZ0, nZ1, fun a k => (jσ36 a k).1, fun a k => (jσ36 a k).2, pσ36]
          refine hQ _ _ ?_ ?_ ?_
          · exact rσ36
          · exact fσ36
          · refine ⟨by omega, by omega, fun i hi => ?_⟩ <;> (try simp only [rII, rIJ, rIP, rJJ, rJI, rJP, rPP, rPI, rPJ, g1, g2, g3, g4, g5, g6, g7, g8, Nat.reduceEqDiff, Nat.reduceAdd, false_and, and_false, true_and, and_true, reduceIte, nZ0, nZ1, fun a k => (jσ36 a k).1, fun a k => (jσ36 a k).2, pσ36]) <;> first | exact hw9 i (by omega) | (split <;> first | omega | exact hw9 i (by omega))
        · rename_i hc234
          skip
          unfold w_X16_matchOne_237
          try simp only [forall_eq, rII, rIJ, rIP, rJJ, rJI, rJP, rPP, rPI, rPJ, g1, g2, g3, g4, g5, g6, g7, g8, Nat.reduceEqDiff, Nat.reduceAdd, false_and, and_false, true_and, and_true, reduceIte, nZ0, nZ1, fun a k => (jσ36 a k).1, fun a k => (jσ36 a k).2, pσ36]
          refine ⟨by (first | omega | with_reducible assumption | (unfold rng; omega) | (unfold rng; (repeat' split) <;> omega)), ?_⟩
          refine ⟨by (first | omega | with_reducible assumption | (unfold rng; omega) | (unfold rng; (repeat' split) <;> omega)), ?_⟩
          refine ⟨by (first | omega | with_reducible assumption | (unfold rng; omega) | (unfold rng; (repeat' split) <;> omega)), ?_⟩
          unfold w_X16_matchOne_257
          try simp only [forall_eq, rII, rIJ, rIP, rJJ, rJI, rJP, rPP, rPI, rPJ, g1, g2, g3, g4, g5, g6, g7, g8, Nat.reduceEqDiff, Nat.reduceAdd, false_and, and_false, true_and, and_true, reduceIte, nZ0, nZ1, fun a k => (jσ36 a k).1, fun a k => (jσ36 a k).2, pσ36]
          refine hQ _ _ ?_ ?_ ?_
          · refine Rg.aI g ?_ (by simp only [rgT]; first | with_reducible exact nZ_rng _ | with_reducible exact nB_rng _ | with_reducible exact wr_rng _ | with_reducible exact i32any _ | (first | omega | with_reducible assumption | (unfold rng; omega) | (unfold rng; (repeat' split) <;> omega))); refine Rg.aJ g ?_ (by simp only [rlT]; first | with_reducible assumption | omega | exact Int64.toInt_le _ | (rw [Int64.toInt_ofInt_of_le (by omega) (by omega)]; omega) | grind); exact rσ36
          · refine Fr.aI g ?_ (by decide); refine Fr.aJ g ?_ (by decide); exact fσ36
          · refine ⟨by omega, by omega, fun i hi => ?_⟩ <;> (try simp only [rII, rIJ, rIP, rJJ, rJI, rJP, rPP, rPI, rPJ, g1, g2, g3, g4, g5, g6, g7, g8, Nat.reduceEqDiff, Nat.reduceAdd, false_and, and_false, true_and, and_true, reduceIte, nZ0, nZ1, fun a k => (jσ36 a k).1, fun a k => (jσ36 a k).2, pσ36]) <;> first | exact hw9 i (by omega) | (split <;> first | omega | exact hw9 i (by omega))
      · rename_i hc10
        skip
        unfold w_X16_matchOne_13
        try simp only [forall_eq, rII, rIJ, rIP, rJJ, rJI, rJP, rPP, rPI, rPJ, g1, g2, g3, g4, g5, g6, g7, g8, Nat.reduceEqDiff, Nat.reduceAdd, false_and, and_false, true_and, and_true, reduceIte, nZ0, nZ1, fun a k => (jτ6 a k).1, fun a k => (jτ6 a k).2, pτ6]
        have hst := hw9 v8.toNat (Or.inr ⟨by omega, by omega⟩)
        refine ⟨by (first | omega | with_reducible assumption | (unfold rng; omega) | (unfold rng; (repeat' split) <;> omega)), ?_⟩
        refine ⟨ja, by exact hj, hja, ?_⟩
        refine ⟨by (first | omega | with_reducible assumption | (unfold rng; omega) | (unfold rng; (repeat' split) <;> omega)), ?_⟩
        split
        · rename_i hc33
          skip
          unfold w_X16_matchOne_39
          try simp only [forall_eq, rII, rIJ, rIP, rJJ, rJI, rJP, rPP, rPI, rPJ, g1, g2, g3, g4, g5, g6, g7, g8, Nat.reduceEqDiff, Nat.reduceAdd, false_and, and_false, true_and, and_true, reduceIte, nZ0, nZ1, fun a k => (jτ6 a k).1, fun a k => (jτ6 a k).2, pτ6]
          refine ⟨by (first | omega | with_reducible assumption | (unfold rng; omega) | (unfold rng; (repeat' split) <;> omega)), ?_⟩
          refine ⟨ja, by exact hj, hja, ?_⟩
          refine ⟨by (first | omega | with_reducible assumption | (unfold rng; omega) | (unfold rng; (repeat' split) <;> omega)), ?_⟩
          have q4 := rτ6.1 122 (v8.toNat); simp only [rgT] at q4
          refine ⟨by (first | omega | with_reducible assumption | (unfold rng; omega) | (unfold rng; (repeat' split) <;> omega)), ?_⟩
          refine ⟨by (first | omega | with_reducible assumption | (unfold rng; omega) | (unfold rng; (repeat' split) <;> omega)), ?_⟩
          have q5 := rσ.2.2.1 ja 13 (((8 * v1) + (gI τ6 (ra 122) v8.toNat)).toNat); simp only [rgJ] at q5
          refine s_X16_worth (b5 := (ra 81)) (n5 := 8) g rτ6 rfl (Or.inl ⟨81, rfl, by decide⟩) (by first | exact hj | (rw [fτ6.2.2.2]; exact hj)) hja (by (try simp only [rII, rIJ, rIP, rJJ, rJI, rJP, rPP, rPI, rPJ, g1, g2, g3, g4, g5, g6, g7, g8, Nat.reduceEqDiff, Nat.reduceAdd, false_and, and_false, true_and, and_true, reduceIte, nZ0, nZ1, fun a k => (jτ6 a k).1, fun a k => (jτ6 a k).2, pτ6]) <;> first | exact PO.fr (hvs _ (by omega) (by omega)) hja fτ6 (by decide) | (have w8 := hvs 0 (by omega) (by omega); rw [show 8 * v1 + 0 = 8 * v1 by omega] at w8; exact PO.fr w8 hja fτ6 (by decide))) (by (try simp only [rII, rIJ, rIP, rJJ, rJI, rJP, rPP, rPI, rPJ, g1, g2, g3, g4, g5, g6, g7, g8, Nat.reduceEqDiff, Nat.reduceAdd, false_and, and_false, true_and, and_true, reduceIte, nZ0, nZ1, fun a k => (jτ6 a k).1, fun a k => (jτ6 a k).2, pτ6]) <;> (first | omega | with_reducible assumption | (unfold rng; omega) | (unfold rng; (repeat' split) <;> omega))) (by (try simp only [rII, rIJ, rIP, rJJ, rJI, rJP, rPP, rPI, rPJ, g1, g2, g3, g4, g5, g6, g7, g8, Nat.reduceEqDiff, Nat.reduceAdd, false_and, and_false, true_and, and_true, reduceIte, nZ0, nZ1, fun a k => (jτ6 a k).1, fun a k => (jτ6 a k).2, pτ6]) <;> (first | omega | with_reducible assumption | (unfold rng; omega) | (unfold rng; (repeat' split) <;> omega))) (fun σ42 r43 rσ42 fc p6 => ?_)
          have fσ42 : Fr ra jx rm [20, 82, 115, 116, 121, 122] [21, 117] σ σ42 := Fr.tr fτ6 (Fr.mor (fc) (by decide) (by decide))
          have hx9 := fun i : Nat => congrFun (fc.1 122 (by decide)).1 i
          have hw9 : ∀ i : Nat, (i : Int) < v7 ∨ v8 ≤ (i : Int) ∧ (i : Int) < v6 → gI σ42 (ra 122) i < gI σ (jx ja 12) v1.toNat := fun i hi => by rw [hx9]; exact hw9 i hi
          have jσ42 := fσ42.2.2.1
          have pσ42 := fσ42.2.2.2
          try simp only [forall_eq, rII, rIJ, rIP, rJJ, rJI, rJP, rPP, rPI, rPJ, g1, g2, g3, g4, g5, g6, g7, g8, Nat.reduceEqDiff, Nat.reduceAdd, false_and, and_false, true_and, and_true, reduceIte, nZ0, nZ1, fun a k => (jσ42 a k).1, fun a k => (jσ42 a k).2, pσ42]
          split
          · rename_i hc82
            skip
            unfold w_X16_matchOne_89
            try simp only [forall_eq, rII, rIJ, rIP, rJJ, rJI, rJP, rPP, rPI, rPJ, g1, g2, g3, g4, g5, g6, g7, g8, Nat.reduceEqDiff, Nat.reduceAdd, false_and, and_false, true_and, and_true, reduceIte, nZ0, nZ1, fun a k => (jσ42 a k).1, fun a k => (jσ42 a k).2, pσ42]
            unfold w_X16_matchOne_90
            try simp only [forall_eq, rII, rIJ, rIP, rJJ, rJI, rJP, rPP, rPI, rPJ, g1, g2, g3, g4, g5, g6, g7, g8, Nat.reduceEqDiff, Nat.reduceAdd, false_and, and_false, true_and, and_true, reduceIte, nZ0, nZ1, fun a k => (jσ42 a k).1, fun a k => (jσ42 a k).2, pσ42]
            refine ⟨by (first | omega | with_reducible assumption | (unfold rng; omega) | (unfold rng; (repeat' split) <;> omega)), ?_⟩
            refine ⟨ja, by exact hj, hja, ?_⟩
            refine ⟨by (first | omega | with_reducible assumption | (unfold rng; omega) | (unfold rng; (repeat' split) <;> omega)), ?_⟩
            split
            · rename_i hc104
              skip
              unfold w_X16_matchOne_173
              try simp only [forall_eq, rII, rIJ, rIP, rJJ, rJI, rJP, rPP, rPI, rPJ, g1, g2, g3, g4, g5, g6, g7, g8, Nat.reduceEqDiff, Nat.reduceAdd, false_and, and_false, true_and, and_true, reduceIte, nZ0, nZ1, fun a k => (jσ42 a k).1, fun a k => (jσ42 a k).2, pσ42]
              refine ⟨by (first | omega | with_reducible assumption | (unfold rng; omega) | (unfold rng; (repeat' split) <;> omega)), ?_⟩
              refine ⟨by (first | omega | with_reducible assumption | (unfold rng; omega) | (unfold rng; (repeat' split) <;> omega)), ?_⟩
              refine ⟨by (first | omega | with_reducible assumption | (unfold rng; omega) | (unfold rng; (repeat' split) <;> omega)), ?_⟩
              refine ⟨by (first | omega | with_reducible assumption | (unfold rng; omega) | (unfold rng; (repeat' split) <;> omega)), ?_⟩
              unfold w_X16_matchOne_199
              try simp only [forall_eq, rII, rIJ, rIP, rJJ, rJI, rJP, rPP, rPI, rPJ, g1, g2, g3, g4, g5, g6, g7, g8, Nat.reduceEqDiff, Nat.reduceAdd, false_and, and_false, true_and, and_true, reduceIte, nZ0, nZ1, fun a k => (jσ42 a k).1, fun a k => (jσ42 a k).2, pσ42]
              refine ⟨by (first | omega | with_reducible assumption | (unfold rng; omega) | (unfold rng; (repeat' split) <;> omega)), ?_⟩
              refine ih6 _ _ _ ?_ ?_ ?_ ?_
              · refine Rg.aI g ?_ (by simp only [rgT]; first | with_reducible exact nZ_rng _ | with_reducible exact nB_rng _ | with_reducible exact wr_rng _ | with_reducible exact i32any _ | (first | omega | with_reducible assumption | (unfold rng; omega) | (unfold rng; (repeat' split) <;> omega))); refine Rg.aJ g ?_ (by simp only [rlT]; first | with_reducible assumption | omega | exact Int64.toInt_le _ | (rw [Int64.toInt_ofInt_of_le (by omega) (by omega)]; omega) | grind); exact rσ42
              · refine Fr.aI g ?_ (by decide); refine Fr.aJ g ?_ (by decide); exact fσ42
              · refine ⟨by omega, by omega, by omega, by omega, fun i hi => ?_⟩ <;> (try simp only [rII, rIJ, rIP, rJJ, rJI, rJP, rPP, rPI, rPJ, g1, g2, g3, g4, g5, g6, g7, g8, Nat.reduceEqDiff, Nat.reduceAdd, false_and, and_false, true_and, and_true, reduceIte, nZ0, nZ1, fun a k => (jσ42 a k).1, fun a k => (jσ42 a k).2, pσ42]) <;> first | exact hps i (by omega) | exact hw9 i (by omega) | (split <;> first | omega | exact hw9 i (by omega))
              · (try simp only [rII, rIJ, rIP, rJJ, rJI, rJP, rPP, rPI, rPJ, g1, g2, g3, g4, g5, g6, g7, g8, Nat.reduceEqDiff, Nat.reduceAdd, false_and, and_false, true_and, and_true, reduceIte, nZ0, nZ1, fun a k => (jσ42 a k).1, fun a k => (jσ42 a k).2, pσ42]) <;> (first | omega | with_reducible assumption | (unfold rng; omega) | (unfold rng; (repeat' split) <;> omega))
            · rename_i hc104
              skip
              unfold w_X16_matchOne_107
              try simp only [forall_eq, rII, rIJ, rIP, rJJ, rJI, rJP, rPP, rPI, rPJ, g1, g2, g3, g4, g5, g6, g7, g8, Nat.reduceEqDiff, Nat.reduceAdd, false_and, and_false, true_and, and_true, reduceIte, nZ0, nZ1, fun a k => (jσ42 a k).1, fun a k => (jσ42 a k).2, pσ42]
              have L110 : ∀ (fu110 : Nat) (τ110 : Sg) (v10 : Int), Rg ra jx rm τ110 → Fr ra jx rm [20, 82, 115, 116, 121, 122] [21, 117] σ τ110 → (0 ≤ v10 ∧ v10 ≤ 8 ∧ (∀ i : Nat, (i : Int) < v7 ∨ v8 ≤ (i : Int) ∧ (i : Int) < v6 → gI τ110 (ra 122) i < gI σ (jx ja 12) v1.toNat)) → ((8 - v10).toNat) < fu110 → wl_X16_matchOne_110 ra jx rm (wl_X16_matchOne_6 ra jx rm Q X fu6) Q X fu110 τ110 v1 v2 v4 v6 v7 v8 v10 := by
                intro fu110
                induction fu110 with
                | zero => intro τ110 _ _ _ _ h9; omega
                | succ fu110 ih110 =>
                  intro τ110 v10 rτ110 fτ110 hi110 hm110
                  unfold wl_X16_matchOne_110
                  have jτ110 := fτ110.2.2.1
                  have pτ110 := fτ110.2.2.2
                  unfold w_X16_matchOne_110
                  try simp only [forall_eq, rII, rIJ, rIP, rJJ, rJI, rJP, rPP, rPI, rPJ, g1, g2, g3, g4, g5, g6, g7, g8, Nat.reduceEqDiff, Nat.reduceAdd, false_and, and_false, true_and, and_true, reduceIte, nZ0, nZ1, fun a k => (jτ110 a k).1, fun a k => (jτ110 a k).2, pτ110]
                  have hw9 := hi110.2.2
                  split
                  · rename_i hc114
                    skip
                    unfold w_X16_matchOne_131
                    try simp only [forall_eq, rII, rIJ, rIP, rJJ, rJI, rJP, rPP, rPI, rPJ, g1, g2, g3, g4, g5, g6, g7, g8, Nat.reduceEqDiff, Nat.reduceAdd, false_and, and_false, true_and, and_true, reduceIte, nZ0, nZ1, fun a k => (jτ110 a k).1, fun a k => (jτ110 a k).2, pτ110]
                    refine ⟨by (first | omega | with_reducible assumption | (unfold rng; omega) | (unfold rng; (repeat' split) <;> omega)), ?_⟩
                    refine s_X16_pass (b3 := (ra 82)) (n3 := 16) g (by refine Rg.aJ g ?_ (by simp only [rlT]; first | with_reducible assumption | omega | exact Int64.toInt_le _ | (rw [Int64.toInt_ofInt_of_le (by omega) (by omega)]; omega) | grind); refine Rg.aJ g ?_ (by simp only [rlT]; first | with_reducible assumption | omega | exact Int64.toInt_le _ | (rw [Int64.toInt_ofInt_of_le (by omega) (by omega)]; omega) | grind); refine Rg.aJ g ?_ (by simp only [rlT]; first | with_reducible assumption | omega | exact Int64.toInt_le _ | (rw [Int64.toInt_ofInt_of_le (by omega) (by omega)]; omega) | grind); exact rτ110) rfl (Or.inl ⟨82, rfl, by decide⟩) (by (try simp only [rII, rIJ, rIP, rJJ, rJI, rJP, rPP, rPI, rPJ, g1, g2, g3, g4, g5, g6, g7, g8, Nat.reduceEqDiff, Nat.reduceAdd, false_and, and_false, true_and, and_true, reduceIte, nZ0, nZ1, fun a k => (jτ110 a k).1, fun a k => (jτ110 a k).2, pτ110]) <;> (first | omega | with_reducible assumption | (unfold rng; omega) | (unfold rng; (repeat' split) <;> omega))) (by (try simp only [rII, rIJ, rIP, rJJ, rJI, rJP, rPP, rPI, rPJ, g1, g2, g3, g4, g5, g6, g7, g8, Nat.reduceEqDiff, Nat.reduceAdd, false_and, and_false, true_and, and_true, reduceIte, nZ0, nZ1, fun a k => (jτ110 a k).1, fun a k => (jτ110 a k).2, pτ110]) <;> (first | omega | with_reducible assumption | (unfold rng; omega) | (unfold rng; (repeat' split) <;> omega))) (fun σ50 _ rσ50 fc p7 => ?_) (fun σx E rx fx px => hX _ _ rx (Fr.tr (by refine Fr.aJ g ?_ (by decide); refine Fr.aJ g ?_ (by decide); refine Fr.aJ g ?_ (by decide); exact fτ110) (Fr.mor (fx) (by decide) (by decide))) px)
                    have fσ50 : Fr ra jx rm [20, 82, 115, 116, 121, 122] [21, 117] σ σ50 := Fr.tr (by refine Fr.aJ g ?_ (by decide); refine Fr.aJ g ?_ (by decide); refine Fr.aJ g ?_ (by decide); exact fτ110) (Fr.mor (fc) (by decide) (by decide))
                    have hw9 : ∀ i : Nat, (i : Int) < v7 ∨ v8 ≤ (i : Int) ∧ (i : Int) < v6 → gI σ50 (ra 122) i < gI σ (jx ja 12) v1.toNat := fun i hi => by rw [congrFun (fc.1 122 (by decide)).1 i]; exact hw9 i hi
                    have jσ50 := fσ50.2.2.1
                    have pσ50 := fσ50.2.2.2
                    try simp only [forall_eq, rII, rIJ, rIP, rJJ, rJI, rJP, rPP, rPI, rPJ, g1, g2, g3, g4, g5, g6, g7, g8, Nat.reduceEqDiff, Nat.reduceAdd, false_and, and_false, true_and, and_true, reduceIte, nZ0, nZ1, fun a k => (jσ50 a k).1, fun a k => (jσ50 a k).2, pσ50]
                    unfold w_X16_matchOne_199
                    try simp only [forall_eq, rII, rIJ, rIP, rJJ, rJI, rJP, rPP, rPI, rPJ, g1, g2, g3, g4, g5, g6, g7, g8, Nat.reduceEqDiff, Nat.reduceAdd, false_and, and_false, true_and, and_true, reduceIte, nZ0, nZ1, fun a k => (jσ50 a k).1, fun a k => (jσ50 a k).2, pσ50]
                    refine ⟨by (first | omega | with_reducible assumption | (unfold rng; omega) | (unfold rng; (repeat' split) <;> omega)), ?_⟩
                    refine ih6 _ _ _ ?_ ?_ ?_ ?_
                    · exact rσ50
                    · exact fσ50
                    · refine ⟨by omega, by omega, by omega, by omega, fun i hi => ?_⟩ <;> (try simp only [rII, rIJ, rIP, rJJ, rJI, rJP, rPP, rPI, rPJ, g1, g2, g3, g4, g5, g6, g7, g8, Nat.reduceEqDiff, Nat.reduceAdd, false_and, and_false, true_and, and_true, reduceIte, nZ0, nZ1, fun a k => (jσ50 a k).1, fun a k => (jσ50 a k).2, pσ50]) <;> first | exact hps i (by omega) | exact hw9 i (by omega) | (split <;> first | omega | exact hw9 i (by omega))
                    · (try simp only [rII, rIJ, rIP, rJJ, rJI, rJP, rPP, rPI, rPJ, g1, g2, g3, g4, g5, g6, g7, g8, Nat.reduceEqDiff, Nat.reduceAdd, false_and, and_false, true_and, and_true, reduceIte, nZ0, nZ1, fun a k => (jσ50 a k).1, fun a k => (jσ50 a k).2, pσ50]) <;> (first | omega | with_reducible assumption | (unfold rng; omega) | (unfold rng; (repeat' split) <;> omega))
                  · rename_i hc114
                    skip
                    unfold w_X16_matchOne_117
                    try simp only [forall_eq, rII, rIJ, rIP, rJJ, rJI, rJP, rPP, rPI, rPJ, g1, g2, g3, g4, g5, g6, g7, g8, Nat.reduceEqDiff, Nat.reduceAdd, false_and, and_false, true_and, and_true, reduceIte, nZ0, nZ1, fun a k => (jτ110 a k).1, fun a k => (jτ110 a k).2, pτ110]
                    refine ⟨by (first | omega | with_reducible assumption | (unfold rng; omega) | (unfold rng; (repeat' split) <;> omega)), ?_⟩
                    refine ⟨by (first | omega | with_reducible assumption | (unfold rng; omega) | (unfold rng; (repeat' split) <;> omega)), ?_⟩
                    refine ih110 _ _ ?_ ?_ ?_ ?_
                    · refine Rg.aJ g ?_ (by simp only [rlT]; first | with_reducible assumption | omega | exact Int64.toInt_le _ | (rw [Int64.toInt_ofInt_of_le (by omega) (by omega)]; omega) | grind); exact rτ110
                    · refine Fr.aJ g ?_ (by decide); exact fτ110
                    · exact ⟨by omega, by omega, fun i hi => hw9 i hi⟩
                    · (try simp only [rII, rIJ, rIP, rJJ, rJI, rJP, rPP, rPI, rPJ, g1, g2, g3, g4, g5, g6, g7, g8, Nat.reduceEqDiff, Nat.reduceAdd, false_and, and_false, true_and, and_true, reduceIte, nZ0, nZ1, fun a k => (jτ110 a k).1, fun a k => (jτ110 a k).2, pτ110]) <;> (first | omega | with_reducible assumption | (unfold rng; omega) | (unfold rng; (repeat' split) <;> omega))
              refine ⟨_, L110 _ _ _ ?_ ?_ ?_ (Nat.lt_succ_self _)⟩
              · exact rσ42
              · exact fσ42
              · exact ⟨by omega, by omega, fun i hi => hw9 i hi⟩
          · rename_i hc82
            skip
            unfold w_X16_matchOne_85
            try simp only [forall_eq, rII, rIJ, rIP, rJJ, rJI, rJP, rPP, rPI, rPJ, g1, g2, g3, g4, g5, g6, g7, g8, Nat.reduceEqDiff, Nat.reduceAdd, false_and, and_false, true_and, and_true, reduceIte, nZ0, nZ1, fun a k => (jσ42 a k).1, fun a k => (jσ42 a k).2, pσ42]
            unfold w_X16_matchOne_90
            try simp only [forall_eq, rII, rIJ, rIP, rJJ, rJI, rJP, rPP, rPI, rPJ, g1, g2, g3, g4, g5, g6, g7, g8, Nat.reduceEqDiff, Nat.reduceAdd, false_and, and_false, true_and, and_true, reduceIte, nZ0, nZ1, fun a k => (jσ42 a k).1, fun a k => (jσ42 a k).2, pσ42]
            refine ⟨by (first | omega | with_reducible assumption | (unfold rng; omega) | (unfold rng; (repeat' split) <;> omega)), ?_⟩
            refine ⟨ja, by exact hj, hja, ?_⟩
            refine ⟨by (first | omega | with_reducible assumption | (unfold rng; omega) | (unfold rng; (repeat' split) <;> omega)), ?_⟩
            split
            · rename_i hc104
              skip
              unfold w_X16_matchOne_173
              try simp only [forall_eq, rII, rIJ, rIP, rJJ, rJI, rJP, rPP, rPI, rPJ, g1, g2, g3, g4, g5, g6, g7, g8, Nat.reduceEqDiff, Nat.reduceAdd, false_and, and_false, true_and, and_true, reduceIte, nZ0, nZ1, fun a k => (jσ42 a k).1, fun a k => (jσ42 a k).2, pσ42]
              refine ⟨by (first | omega | with_reducible assumption | (unfold rng; omega) | (unfold rng; (repeat' split) <;> omega)), ?_⟩
              refine ⟨by (first | omega | with_reducible assumption | (unfold rng; omega) | (unfold rng; (repeat' split) <;> omega)), ?_⟩
              refine ⟨by (first | omega | with_reducible assumption | (unfold rng; omega) | (unfold rng; (repeat' split) <;> omega)), ?_⟩
              refine ⟨by (first | omega | with_reducible assumption | (unfold rng; omega) | (unfold rng; (repeat' split) <;> omega)), ?_⟩
              unfold w_X16_matchOne_199
              try simp only [forall_eq, rII, rIJ, rIP, rJJ, rJI, rJP, rPP, rPI, rPJ, g1, g2, g3, g4, g5, g6, g7, g8, Nat.reduceEqDiff, Nat.reduceAdd, false_and, and_false, true_and, and_true, reduceIte, nZ0, nZ1, fun a k => (jσ42 a k).1, fun a k => (jσ42 a k).2, pσ42]
              refine ⟨by (first | omega | with_reducible assumption | (unfold rng; omega) | (unfold rng; (repeat' split) <;> omega)), ?_⟩
              refine ih6 _ _ _ ?_ ?_ ?_ ?_
              · refine Rg.aI g ?_ (by simp only [rgT]; first | with_reducible exact nZ_rng _ | with_reducible exact nB_rng _ | with_reducible exact wr_rng _ | with_reducible exact i32any _ | (first | omega | with_reducible assumption | (unfold rng; omega) | (unfold rng; (repeat' split) <;> omega))); refine Rg.aJ g ?_ (by simp only [rlT]; first | with_reducible assumption | omega | exact Int64.toInt_le _ | (rw [Int64.toInt_ofInt_of_le (by omega) (by omega)]; omega) | grind); exact rσ42
              · refine Fr.aI g ?_ (by decide); refine Fr.aJ g ?_ (by decide); exact fσ42
              · refine ⟨by omega, by omega, by omega, by omega, fun i hi => ?_⟩ <;> (try simp only [rII, rIJ, rIP, rJJ, rJI, rJP, rPP, rPI, rPJ, g1, g2, g3, g4, g5, g6, g7, g8, Nat.reduceEqDiff, Nat.reduceAdd, false_and, and_false, true_and, and_true, reduceIte, nZ0, nZ1, fun a k => (jσ42 a k).1, fun a k => (jσ42 a k).2, pσ42]) <;> first | exact hps i (by omega) | exact hw9 i (by omega) | (split <;> first | omega | exact hw9 i (by omega))
              · (try simp only [rII, rIJ, rIP, rJJ, rJI, rJP, rPP, rPI, rPJ, g1, g2, g3, g4, g5, g6, g7, g8, Nat.reduceEqDiff, Nat.reduceAdd, false_and, and_false, true_and, and_true, reduceIte, nZ0, nZ1, fun a k => (jσ42 a k).1, fun a k => (jσ42 a k).2, pσ42]) <;> (first | omega | with_reducible assumption | (unfold rng; omega) | (unfold rng; (repeat' split) <;> omega))
            · rename_i hc104
              skip
              unfold w_X16_matchOne_107
              try simp only [forall_eq, rII, rIJ, rIP, rJJ, rJI, rJP, rPP, rPI, rPJ, g1, g2, g3, g4, g5, g6, g7, g8, Nat.reduceEqDiff, Nat.reduceAdd, false_and, and_false, true_and, and_true, reduceIte, nZ0, nZ1, fun a k => (jσ42 a k).1, fun a k => (jσ42 a k).2, pσ42]
              have L110 : ∀ (fu110 : Nat) (τ110 : Sg) (v10 : Int), Rg ra jx rm τ110 → Fr ra jx rm [20, 82, 115, 116, 121, 122] [21, 117] σ τ110 → (0 ≤ v10 ∧ v10 ≤ 8 ∧ (∀ i : Nat, (i : Int) < v7 ∨ v8 ≤ (i : Int) ∧ (i : Int) < v6 → gI τ110 (ra 122) i < gI σ (jx ja 12) v1.toNat)) → ((8 - v10).toNat) < fu110 → wl_X16_matchOne_110 ra jx rm (wl_X16_matchOne_6 ra jx rm Q X fu6) Q X fu110 τ110 v1 v2 v4 v6 v7 v8 v10 := by
                intro fu110
                induction fu110 with
                | zero => intro τ110 _ _ _ _ h9; omega
                | succ fu110 ih110 =>
                  intro τ110 v10 rτ110 fτ110 hi110 hm110
                  unfold wl_X16_matchOne_110
                  have jτ110 := fτ110.2.2.1
                  have pτ110 := fτ110.2.2.2
                  unfold w_X16_matchOne_110
                  try simp only [forall_eq, rII, rIJ, rIP, rJJ, rJI, rJP, rPP, rPI, rPJ, g1, g2, g3, g4, g5, g6, g7, g8, Nat.reduceEqDiff, Nat.reduceAdd, false_and, and_false, true_and, and_true, reduceIte, nZ0, nZ1, fun a k => (jτ110 a k).1, fun a k => (jτ110 a k).2, pτ110]
                  have hw9 := hi110.2.2
                  split
                  · rename_i hc114
                    skip
                    unfold w_X16_matchOne_131
                    try simp only [forall_eq, rII, rIJ, rIP, rJJ, rJI, rJP, rPP, rPI, rPJ, g1, g2, g3, g4, g5, g6, g7, g8, Nat.reduceEqDiff, Nat.reduceAdd, false_and, and_false, true_and, and_true, reduceIte, nZ0, nZ1, fun a k => (jτ110 a k).1, fun a k => (jτ110 a k).2, pτ110]
                    refine ⟨by (first | omega | with_reducible assumption | (unfold rng; omega) | (unfold rng; (repeat' split) <;> omega)), ?_⟩
                    refine s_X16_pass (b3 := (ra 82)) (n3 := 16) g (by refine Rg.aJ g ?_ (by simp only [rlT]; first | with_reducible assumption | omega | exact Int64.toInt_le _ | (rw [Int64.toInt_ofInt_of_le (by omega) (by omega)]; omega) | grind); refine Rg.aJ g ?_ (by simp only [rlT]; first | with_reducible assumption | omega | exact Int64.toInt_le _ | (rw [Int64.toInt_ofInt_of_le (by omega) (by omega)]; omega) | grind); refine Rg.aJ g ?_ (by simp only [rlT]; first | with_reducible assumption | omega | exact Int64.toInt_le _ | (rw [Int64.toInt_ofInt_of_le (by omega) (by omega)]; omega) | grind); exact rτ110) rfl (Or.inl ⟨82, rfl, by decide⟩) (by (try simp only [rII, rIJ, rIP, rJJ, rJI, rJP, rPP, rPI, rPJ, g1, g2, g3, g4, g5, g6, g7, g8, Nat.reduceEqDiff, Nat.reduceAdd, false_and, and_false, true_and, and_true, reduceIte, nZ0, nZ1, fun a k => (jτ110 a k).1, fun a k => (jτ110 a k).2, pτ110]) <;> (first | omega | with_reducible assumption | (unfold rng; omega) | (unfold rng; (repeat' split) <;> omega))) (by (try simp only [rII, rIJ, rIP, rJJ, rJI, rJP, rPP, rPI, rPJ, g1, g2, g3, g4, g5, g6, g7, g8, Nat.reduceEqDiff, Nat.reduceAdd, false_and, and_false, true_and, and_true, reduceIte, nZ0, nZ1, fun a k => (jτ110 a k).1, fun a k => (jτ110 a k).2, pτ110]) <;> (first | omega | with_reducible assumption | (unfold rng; omega) | (unfold rng; (repeat' split) <;> omega))) (fun σ58 _ rσ58 fc p8 => ?_) (fun σx E rx fx px => hX _ _ rx (Fr.tr (by refine Fr.aJ g ?_ (by decide); refine Fr.aJ g ?_ (by decide); refine Fr.aJ g ?_ (by decide); exact fτ110) (Fr.mor (fx) (by decide) (by decide))) px)
                    have fσ58 : Fr ra jx rm [20, 82, 115, 116, 121, 122] [21, 117] σ σ58 := Fr.tr (by refine Fr.aJ g ?_ (by decide); refine Fr.aJ g ?_ (by decide); refine Fr.aJ g ?_ (by decide); exact fτ110) (Fr.mor (fc) (by decide) (by decide))
                    have hw9 : ∀ i : Nat, (i : Int) < v7 ∨ v8 ≤ (i : Int) ∧ (i : Int) < v6 → gI σ58 (ra 122) i < gI σ (jx ja 12) v1.toNat := fun i hi => by rw [congrFun (fc.1 122 (by decide)).1 i]; exact hw9 i hi
                    have jσ58 := fσ58.2.2.1
                    have pσ58 := fσ58.2.2.2
                    try simp only [forall_eq, rII, rIJ, rIP, rJJ, rJI, rJP, rPP, rPI, rPJ, g1, g2, g3, g4, g5, g6, g7, g8, Nat.reduceEqDiff, Nat.reduceAdd, false_and, and_false, true_and, and_true, reduceIte, nZ0, nZ1, fun a k => (jσ58 a k).1, fun a k => (jσ58 a k).2, pσ58]
                    unfold w_X16_matchOne_199
                    try simp only [forall_eq, rII, rIJ, rIP, rJJ, rJI, rJP, rPP, rPI, rPJ, g1, g2, g3, g4, g5, g6, g7, g8, Nat.reduceEqDiff, Nat.reduceAdd, false_and, and_false, true_and, and_true, reduceIte, nZ0, nZ1, fun a k => (jσ58 a k).1, fun a k => (jσ58 a k).2, pσ58]
                    refine ⟨by (first | omega | with_reducible assumption | (unfold rng; omega) | (unfold rng; (repeat' split) <;> omega)), ?_⟩
                    refine ih6 _ _ _ ?_ ?_ ?_ ?_
                    · exact rσ58
                    · exact fσ58
                    · refine ⟨by omega, by omega, by omega, by omega, fun i hi => ?_⟩ <;> (try simp only [rII, rIJ, rIP, rJJ, rJI, rJP, rPP, rPI, rPJ, g1, g2, g3, g4, g5, g6, g7, g8, Nat.reduceEqDiff, Nat.reduceAdd, false_and, and_false, true_and, and_true, reduceIte, nZ0, nZ1, fun a k => (jσ58 a k).1, fun a k => (jσ58 a k).2, pσ58]) <;> first | exact hps i (by omega) | exact hw9 i (by omega) | (split <;> first | omega | exact hw9 i (by omega))
                    · (try simp only [rII, rIJ, rIP, rJJ, rJI, rJP, rPP, rPI, rPJ, g1, g2, g3, g4, g5, g6, g7, g8, Nat.reduceEqDiff, Nat.reduceAdd, false_and, and_false, true_and, and_true, reduceIte, nZ0, nZ1, fun a k => (jσ58 a k).1, fun a k => (jσ58 a k).2, pσ58]) <;> (first | omega | with_reducible assumption | (unfold rng; omega) | (unfold rng; (repeat' split) <;> omega))
                  · rename_i hc114
                    skip
                    unfold w_X16_matchOne_117
                    try simp only [forall_eq, rII, rIJ, rIP, rJJ, rJI, rJP, rPP, rPI, rPJ, g1, g2, g3, g4, g5, g6, g7, g8, Nat.reduceEqDiff, Nat.reduceAdd, false_and, and_false, true_and, and_true, reduceIte, nZ0, nZ1, fun a k => (jτ110 a k).1, fun a k => (jτ110 a k).2, pτ110]
                    refine ⟨by (first | omega | with_reducible assumption | (unfold rng; omega) | (unfold rng; (repeat' split) <;> omega)), ?_⟩
                    refine ⟨by (first | omega | with_reducible assumption | (unfold rng; omega) | (unfold rng; (repeat' split) <;> omega)), ?_⟩
                    refine ih110 _ _ ?_ ?_ ?_ ?_
                    · refine Rg.aJ g ?_ (by simp only [rlT]; first | with_reducible assumption | omega | exact Int64.toInt_le _ | (rw [Int64.toInt_ofInt_of_le (by omega) (by omega)]; omega) | grind); exact rτ110
                    · refine Fr.aJ g ?_ (by decide); exact fτ110
                    · exact ⟨by omega, by omega, fun i hi => hw9 i hi⟩
                    · (try simp only [rII, rIJ, rIP, rJJ, rJI, rJP, rPP, rPI, rPJ, g1, g2, g3, g4, g5, g6, g7, g8, Nat.reduceEqDiff, Nat.reduceAdd, false_and, and_false, true_and, and_true, reduceIte, nZ0, nZ1, fun a k => (jτ110 a k).1, fun a k => (jτ110 a k).2, pτ110]) <;> (first | omega | with_reducible assumption | (unfold rng; omega) | (unfold rng; (repeat' split) <;> omega))
              refine ⟨_, L110 _ _ _ ?_ ?_ ?_ (Nat.lt_succ_self _)⟩
              · exact rσ42
              · exact fσ42
              · exact ⟨by omega, by omega, fun i hi => hw9 i hi⟩
        · rename_i hc33
          skip
          unfold w_X16_matchOne_36
          try simp only [forall_eq, rII, rIJ, rIP, rJJ, rJI, rJP, rPP, rPI, rPJ, g1, g2, g3, g4, g5, g6, g7, g8, Nat.reduceEqDiff, Nat.reduceAdd, false_and, and_false, true_and, and_true, reduceIte, nZ0, nZ1, fun a k => (jτ6 a k).1, fun a k => (jτ6 a k).2, pτ6]
          unfold w_X16_matchOne_199
          try simp only [forall_eq, rII, rIJ, rIP, rJJ, rJI, rJP, rPP, rPI, rPJ, g1, g2, g3, g4, g5, g6, g7, g8, Nat.reduceEqDiff, Nat.reduceAdd, false_and, and_false, true_and, and_true, reduceIte, nZ0, nZ1, fun a k => (jτ6 a k).1, fun a k => (jτ6 a k).2, pτ6]
          refine ⟨by (first | omega | with_reducible assumption | (unfold rng; omega) | (unfold rng; (repeat' split) <;> omega)), ?_⟩
          refine ih6 _ _ _ ?_ ?_ ?_ ?_
          · exact rτ6
          · exact fτ6
          · refine ⟨by omega, by omega, by omega, by omega, fun i hi => ?_⟩ <;> (try simp only [rII, rIJ, rIP, rJJ, rJI, rJP, rPP, rPI, rPJ, g1, g2, g3, g4, g5, g6, g7, g8, Nat.reduceEqDiff, Nat.reduceAdd, false_and, and_false, true_and, and_true, reduceIte, nZ0, nZ1, fun a k => (jτ6 a k).1, fun a k => (jτ6 a k).2, pτ6]) <;> first | exact hps i (by omega) | exact hw9 i (by omega) | (split <;> first | omega | exact hw9 i (by omega))
          · (try simp only [rII, rIJ, rIP, rJJ, rJI, rJP, rPP, rPI, rPJ, g1, g2, g3, g4, g5, g6, g7, g8, Nat.reduceEqDiff, Nat.reduceAdd, false_and, and_false, true_and, and_true, reduceIte, nZ0, nZ1, fun a k => (jτ6 a k).1, fun a k => (jτ6 a k).2, pτ6]) <;> (first | omega | with_reducible assumption | (unfold rng; omega) | (unfold rng; (repeat' split) <;> omega))
  refine ⟨_, L6 _ _ _ _ ?_ ?_ ?_ (Nat.lt_succ_self _)⟩
  · exact rσ
  · exact fσ
  · refine ⟨by omega, by omega, by omega, by omega, fun i hi => ?_⟩ <;> (try simp only [rII, rIJ, rIP, rJJ, rJI, rJP, rPP, rPI, rPJ, g1, g2, g3, g4, g5, g6, g7, g8, Nat.reduceEqDiff, Nat.reduceAdd, false_and, and_false, true_and, and_true, reduceIte, nZ0, nZ1]) <;> first | exact hps i (by omega) | exact hw9 i (by omega) | (split <;> first | omega | exact hw9 i (by omega))
set_option maxHeartbeats 4000000 in
theorem s_X16_passMatch {ra : Nat → Nat} {jx : Nat → Nat → Nat} {rm : Nat} {ja : Nat} (g : Geo ra jx rm) {σ : Sg} {v1 : Int} {v2 : Int} (rσ : Rg ra jx rm σ) (hj : gP σ rm 17 = some ja) (hja : ja = ra 15 ∨ ja = ra 16) (h1 : 0 ≤ v1 ∧ v1 < 16) (h2 : 0 ≤ v2 ∧ v2 < 16) (hvs : ∀ k, 0 ≤ k → k < gI σ (jx ja 12) v1.toNat → PO jx ja σ (gI σ (jx ja 13) (8 * v1 + k).toNat)) (hva : 2 ≤ gI σ (jx ja 12) v1.toNat) {Q : Sg → Unit → Prop} {X : Sg → String → Prop} (hQ : ∀ (σ' : Sg) (r : Unit), Rg ra jx rm σ' → Fr ra jx rm [20, 81, 82, 115, 116, 119, 120, 121, 122] [21, 117] σ σ' → (True) → Q σ' r) (hX : ∀ (σ' : Sg) (E : String), Rg ra jx rm σ' → Fr ra jx rm [20, 81, 82, 115, 116, 119, 120, 121, 122] [21, 117] σ σ' → (E = "StreamHouseModel$Broken") → X σ' E) : wp_X16_passMatch ra jx rm v1 v2 σ Q X := by
  obtain ⟨g1, g2, g3, g4, g5, g6, g7, g8⟩ := id g
  have fσ : Fr ra jx rm [20, 81, 82, 115, 116, 119, 120, 121, 122] [21, 117] σ σ := Fr.rf
  unfold wp_X16_passMatch
  unfold w_X16_passMatch_0
  try simp only [forall_eq, rII, rIJ, rIP, rJJ, rJI, rJP, rPP, rPI, rPJ, g1, g2, g3, g4, g5, g6, g7, g8, Nat.reduceEqDiff, Nat.reduceAdd, false_and, and_false, true_and, and_true, reduceIte, nZ0, nZ1]
  refine s_X16_sort g rσ (by first | exact hj | (rw [fσ.2.2.2]; exact hj)) hja (by (try simp only [rII, rIJ, rIP, rJJ, rJI, rJP, rPP, rPI, rPJ, g1, g2, g3, g4, g5, g6, g7, g8, Nat.reduceEqDiff, Nat.reduceAdd, false_and, and_false, true_and, and_true, reduceIte, nZ0, nZ1]) <;> (first | omega | with_reducible assumption | (unfold rng; omega) | (unfold rng; (repeat' split) <;> omega))) (fun σ23 r24 rσ23 fc p1 => ?_)
  have fσ23 : Fr ra jx rm [20, 81, 82, 115, 116, 119, 120, 121, 122] [21, 117] σ σ23 := Fr.tr fσ (Fr.mor (fc) (by decide) (by decide))
  have jσ23 := fσ23.2.2.1
  have pσ23 := fσ23.2.2.2
  try simp only [forall_eq, rII, rIJ, rIP, rJJ, rJI, rJP, rPP, rPI, rPJ, g1, g2, g3, g4, g5, g6, g7, g8, Nat.reduceEqDiff, Nat.reduceAdd, false_and, and_false, true_and, and_true, reduceIte, nZ0, nZ1, fun a k => (jσ23 a k).1, fun a k => (jσ23 a k).2, pσ23]
  have L9 : ∀ (fu9 : Nat) (τ9 : Sg) (v4 : Int), Rg ra jx rm τ9 → Fr ra jx rm [20, 81, 82, 115, 116, 119, 120, 121, 122] [21, 117] σ τ9 → (0 ≤ v4 ∧ v4 ≤ r24) → ((r24 - v4).toNat) < fu9 → wl_X16_passMatch_9 ra jx rm Q X fu9 τ9 v1 r24 v4 := by
    intro fu9
    induction fu9 with
    | zero => intro τ9 _ _ _ _ h9; omega
    | succ fu9 ih9 =>
      intro τ9 v4 rτ9 fτ9 hi9 hm9
      unfold wl_X16_passMatch_9
      have jτ9 := fτ9.2.2.1
      have pτ9 := fτ9.2.2.2
      unfold w_X16_passMatch_9
      try simp only [forall_eq, rII, rIJ, rIP, rJJ, rJI, rJP, rPP, rPI, rPJ, g1, g2, g3, g4, g5, g6, g7, g8, Nat.reduceEqDiff, Nat.reduceAdd, false_and, and_false, true_and, and_true, reduceIte, nZ0, nZ1, fun a k => (jτ9 a k).1, fun a k => (jτ9 a k).2, pτ9]
      split
      · rename_i hc12
        skip
        unfold w_X16_passMatch_29
        try simp only [forall_eq, rII, rIJ, rIP, rJJ, rJI, rJP, rPP, rPI, rPJ, g1, g2, g3, g4, g5, g6, g7, g8, Nat.reduceEqDiff, Nat.reduceAdd, false_and, and_false, true_and, and_true, reduceIte, nZ0, nZ1, fun a k => (jτ9 a k).1, fun a k => (jτ9 a k).2, pτ9]
        have L32 : ∀ (fu32 : Nat) (τ32 : Sg) (v4 : Int), Rg ra jx rm τ32 → Fr ra jx rm [20, 81, 82, 115, 116, 119, 120, 121, 122] [21, 117] σ τ32 → (0 ≤ v4 ∧ v4 ≤ r24) → ((r24 - v4).toNat) < fu32 → wl_X16_passMatch_32 ra jx rm Q X fu32 τ32 v1 r24 v4 := by
          intro fu32
          induction fu32 with
          | zero => intro τ32 _ _ _ _ h9; omega
          | succ fu32 ih32 =>
            intro τ32 v4 rτ32 fτ32 hi32 hm32
            unfold wl_X16_passMatch_32
            have jτ32 := fτ32.2.2.1
            have pτ32 := fτ32.2.2.2
            unfold w_X16_passMatch_32
            try simp only [forall_eq, rII, rIJ, rIP, rJJ, rJI, rJP, rPP, rPI, rPJ, g1, g2, g3, g4, g5, g6, g7, g8, Nat.reduceEqDiff, Nat.reduceAdd, false_and, and_false, true_and, and_true, reduceIte, nZ0, nZ1, fun a k => (jτ32 a k).1, fun a k => (jτ32 a k).2, pτ32]
            split
            · rename_i hc35
              skip
              unfold w_X16_passMatch_198
              try simp only [forall_eq, rII, rIJ, rIP, rJJ, rJI, rJP, rPP, rPI, rPJ, g1, g2, g3, g4, g5, g6, g7, g8, Nat.reduceEqDiff, Nat.reduceAdd, false_and, and_false, true_and, and_true, reduceIte, nZ0, nZ1, fun a k => (jτ32 a k).1, fun a k => (jτ32 a k).2, pτ32]
              refine hQ _ _ ?_ ?_ ?_
              · exact rτ32
              · exact fτ32
              · exact trivial
            · rename_i hc35
              skip
              unfold w_X16_passMatch_38
              try simp only [forall_eq, rII, rIJ, rIP, rJJ, rJI, rJP, rPP, rPI, rPJ, g1, g2, g3, g4, g5, g6, g7, g8, Nat.reduceEqDiff, Nat.reduceAdd, false_and, and_false, true_and, and_true, reduceIte, nZ0, nZ1, fun a k => (jτ32 a k).1, fun a k => (jτ32 a k).2, pτ32]
              refine ⟨by (first | omega | with_reducible assumption | (unfold rng; omega) | (unfold rng; (repeat' split) <;> omega)), ?_⟩
              have q2 := rτ32.1 120 (v4.toNat); simp only [rgT] at q2
              split
              · rename_i hc45
                skip
                unfold w_X16_passMatch_51
                try simp only [forall_eq, rII, rIJ, rIP, rJJ, rJI, rJP, rPP, rPI, rPJ, g1, g2, g3, g4, g5, g6, g7, g8, Nat.reduceEqDiff, Nat.reduceAdd, false_and, and_false, true_and, and_true, reduceIte, nZ0, nZ1, fun a k => (jτ32 a k).1, fun a k => (jτ32 a k).2, pτ32]
                refine ⟨by (first | omega | with_reducible assumption | (unfold rng; omega) | (unfold rng; (repeat' split) <;> omega)), ?_⟩
                have q3 := rτ32.1 119 (v4.toNat); simp only [rgT] at q3
                refine ⟨by (first | omega | with_reducible assumption | (unfold rng; omega) | (unfold rng; (repeat' split) <;> omega)), ?_⟩
                refine ⟨ja, by exact hj, hja, ?_⟩
                refine ⟨by (first | omega | with_reducible assumption | (unfold rng; omega) | (unfold rng; (repeat' split) <;> omega)), ?_⟩
                have q4 := rσ.2.2.1 ja 10 (v1.toNat); simp only [rgJ] at q4
                refine ⟨by (first | omega | with_reducible assumption | (unfold rng; omega) | (unfold rng; (repeat' split) <;> omega)), ?_⟩
                refine ⟨by (first | omega | with_reducible assumption | (unfold rng; omega) | (unfold rng; (repeat' split) <;> omega)), ?_⟩
                have q5 := rσ.2.2.1 ja 12 (v1.toNat); simp only [rgJ] at q5
                have L85 : ∀ (fu85 : Nat) (τ85 : Sg) (v7 : Int) (v8 : Int), Rg ra jx rm τ85 → Fr ra jx rm [20, 81, 82, 115, 116, 119, 120, 121, 122] [21, 117] σ τ85 → (0 ≤ v8 ∧ v8 ≤ r24 ∧ 0 ≤ v7 ∧ v7 ≤ v8 ∧ v7 < 4000 + 1 ∧ (∀ i : Nat, (i : Int) < v7 → gI τ85 (ra 122) i < gI σ (jx ja 12) v1.toNat)) → ((r24 - v8).toNat) < fu85 → wl_X16_passMatch_85 ra jx rm (wl_X16_passMatch_32 ra jx rm Q X fu32) Q X fu85 τ85 v1 r24 v4 (gJ τ32 (ra 116) ((8 * (gI τ32 (ra 119) v4.toNat)) + (gI σ (jx ja 10) v1.toNat)).toNat) v7 v8 := by
                  intro fu85
                  induction fu85 with
                  | zero => intro τ85 _ _ _ _ _ h9; omega
                  | succ fu85 ih85 =>
                    intro τ85 v7 v8 rτ85 fτ85 hi85 hm85
                    unfold wl_X16_passMatch_85
                    have jτ85 := fτ85.2.2.1
                    have pτ85 := fτ85.2.2.2
                    unfold w_X16_passMatch_85
                    try simp only [forall_eq, rII, rIJ, rIP, rJJ, rJI, rJP, rPP, rPI, rPJ, g1, g2, g3, g4, g5, g6, g7, g8, Nat.reduceEqDiff, Nat.reduceAdd, false_and, and_false, true_and, and_true, reduceIte, nZ0, nZ1, fun a k => (jτ85 a k).1, fun a k => (jτ85 a k).2, pτ85]
                    have hps9 := hi85.2.2.2.2.2
                    have i81 := hi85.1; have i82 := hi85.2.1; have i83 := hi85.2.2.1; have i84 := hi85.2.2.2.1; clear hi85
                    split
                    · rename_i hc88
                      skip
                      unfold w_X16_passMatch_192
                      try simp only [forall_eq, rII, rIJ, rIP, rJJ, rJI, rJP, rPP, rPI, rPJ, g1, g2, g3, g4, g5, g6, g7, g8, Nat.reduceEqDiff, Nat.reduceAdd, false_and, and_false, true_and, and_true, reduceIte, nZ0, nZ1, fun a k => (jτ85 a k).1, fun a k => (jτ85 a k).2, pτ85]
                      refine ⟨by (first | omega | with_reducible assumption | (unfold rng; omega) | (unfold rng; (repeat' split) <;> omega)), ?_⟩
                      refine ih32 _ _ ?_ ?_ ?_ ?_
                      · exact rτ85
                      · exact fτ85
                      · (try simp only [rII, rIJ, rIP, rJJ, rJI, rJP, rPP, rPI, rPJ, g1, g2, g3, g4, g5, g6, g7, g8, Nat.reduceEqDiff, Nat.reduceAdd, false_and, and_false, true_and, and_true, reduceIte, nZ0, nZ1, fun a k => (jτ85 a k).1, fun a k => (jτ85 a k).2, pτ85]) <;> (first | omega | with_reducible assumption | (unfold rng; omega) | (unfold rng; (repeat' split) <;> omega))
                      · (try simp only [rII, rIJ, rIP, rJJ, rJI, rJP, rPP, rPI, rPJ, g1, g2, g3, g4, g5, g6, g7, g8, Nat.reduceEqDiff, Nat.reduceAdd, false_and, and_false, true_and, and_true, reduceIte, nZ0, nZ1, fun a k => (jτ85 a k).1, fun a k => (jτ85 a k).2, pτ85]) <;> (first | omega | with_reducible assumption | (unfold rng; omega) | (unfold rng; (repeat' split) <;> omega))
                    · rename_i hc88
                      skip
                      unfold w_X16_passMatch_91
                      try simp only [forall_eq, rII, rIJ, rIP, rJJ, rJI, rJP, rPP, rPI, rPJ, g1, g2, g3, g4, g5, g6, g7, g8, Nat.reduceEqDiff, Nat.reduceAdd, false_and, and_false, true_and, and_true, reduceIte, nZ0, nZ1, fun a k => (jτ85 a k).1, fun a k => (jτ85 a k).2, pτ85]
                      refine ⟨by (first | omega | with_reducible assumption | (unfold rng; omega) | (unfold rng; (repeat' split) <;> omega)), ?_⟩
                      refine ⟨by (first | omega | with_reducible assumption | (unfold rng; omega) | (unfold rng; (repeat' split) <;> omega)), ?_⟩
                      have q6 := rτ85.1 120 (v8.toNat); simp only [rgT] at q6
                      split
                      · rename_i hc107
                        skip
                        unfold w_X16_passMatch_186
                        try simp only [forall_eq, rII, rIJ, rIP, rJJ, rJI, rJP, rPP, rPI, rPJ, g1, g2, g3, g4, g5, g6, g7, g8, Nat.reduceEqDiff, Nat.reduceAdd, false_and, and_false, true_and, and_true, reduceIte, nZ0, nZ1, fun a k => (jτ85 a k).1, fun a k => (jτ85 a k).2, pτ85]
                        refine ⟨by (first | omega | with_reducible assumption | (unfold rng; omega) | (unfold rng; (repeat' split) <;> omega)), ?_⟩
                        refine ih85 _ _ _ ?_ ?_ ?_ ?_
                        · exact rτ85
                        · exact fτ85
                        · refine ⟨by omega, by omega, by omega, by omega, by omega, fun i hi => ?_⟩ <;> (try simp only [rII, rIJ, rIP, rJJ, rJI, rJP, rPP, rPI, rPJ, g1, g2, g3, g4, g5, g6, g7, g8, Nat.reduceEqDiff, Nat.reduceAdd, false_and, and_false, true_and, and_true, reduceIte, nZ0, nZ1, fun a k => (jτ85 a k).1, fun a k => (jτ85 a k).2, pτ85]) <;> first | omega | exact hps9 i (by omega)
                        · (try simp only [rII, rIJ, rIP, rJJ, rJI, rJP, rPP, rPI, rPJ, g1, g2, g3, g4, g5, g6, g7, g8, Nat.reduceEqDiff, Nat.reduceAdd, false_and, and_false, true_and, and_true, reduceIte, nZ0, nZ1, fun a k => (jτ85 a k).1, fun a k => (jτ85 a k).2, pτ85]) <;> (first | omega | with_reducible assumption | (unfold rng; omega) | (unfold rng; (repeat' split) <;> omega))
                      · rename_i hc107
                        skip
                        unfold w_X16_passMatch_110
                        try simp only [forall_eq, rII, rIJ, rIP, rJJ, rJI, rJP, rPP, rPI, rPJ, g1, g2, g3, g4, g5, g6, g7, g8, Nat.reduceEqDiff, Nat.reduceAdd, false_and, and_false, true_and, and_true, reduceIte, nZ0, nZ1, fun a k => (jτ85 a k).1, fun a k => (jτ85 a k).2, pτ85]
                        have q7 := rτ85.1 119 (v8.toNat); simp only [rgT] at q7
                        refine ⟨by (first | omega | with_reducible assumption | (unfold rng; omega) | (unfold rng; (repeat' split) <;> omega)), ?_⟩
                        refine ⟨ja, by exact hj, hja, ?_⟩
                        refine ⟨by (first | omega | with_reducible assumption | (unfold rng; omega) | (unfold rng; (repeat' split) <;> omega)), ?_⟩
                        refine ⟨by (first | omega | with_reducible assumption | (unfold rng; omega) | (unfold rng; (repeat' split) <;> omega)), ?_⟩
                        refine ⟨by (first | omega | with_reducible assumption | (unfold rng; omega) | (unfold rng; (repeat' split) <;> omega)), ?_⟩
                        split
                        · rename_i hc133
                          skip
                          unfold w_X16_passMatch_139
                          try simp only [forall_eq, rII, rIJ, rIP, rJJ, rJI, rJP, rPP, rPI, rPJ, g1, g2, g3, g4, g5, g6, g7, g8, Nat.reduceEqDiff, Nat.reduceAdd, false_and, and_false, true_and, and_true, reduceIte, nZ0, nZ1, fun a k => (jτ85 a k).1, fun a k => (jτ85 a k).2, pτ85]
                          refine ⟨by (first | omega | with_reducible assumption | (unfold rng; omega) | (unfold rng; (repeat' split) <;> omega)), ?_⟩
                          refine s_X16_load g (by refine Rg.aI g ?_ (by simp only [rgT]; first | with_reducible exact nZ_rng _ | with_reducible exact nB_rng _ | with_reducible exact wr_rng _ | with_reducible exact i32any _ | (first | omega | with_reducible assumption | (unfold rng; omega) | (unfold rng; (repeat' split) <;> omega))); exact rτ85) (by (try simp only [rII, rIJ, rIP, rJJ, rJI, rJP, rPP, rPI, rPJ, g1, g2, g3, g4, g5, g6, g7, g8, Nat.reduceEqDiff, Nat.reduceAdd, false_and, and_false, true_and, and_true, reduceIte, nZ0, nZ1, fun a k => (jτ85 a k).1, fun a k => (jτ85 a k).2, pτ85]) <;> (first | omega | with_reducible assumption | (unfold rng; omega) | (unfold rng; (repeat' split) <;> omega))) (fun σ28 _ rσ28 fc p8 => ?_)
                          have fσ28 : Fr ra jx rm [20, 81, 82, 115, 116, 119, 120, 121, 122] [21, 117] σ σ28 := Fr.tr (by refine Fr.aI g ?_ (by decide); exact fτ85) (Fr.mor (fc) (by decide) (by decide))
                          have hps9 : ∀ i : Nat, (i : Int) < v7 → gI σ28 (ra 122) i < gI σ (jx ja 12) v1.toNat := fun i hi => by rw [congrFun (fc.1 122 (by decide)).1 i]; simp only [rII, rIJ, rIP, rJJ, rJI, rJP, rPP, rPI, rPJ, g1, g2, g3, g4, g5, g6, g7, g8, Nat.reduceEqDiff, Nat.reduceAdd, false_and, and_false, true_and, and_true, reduceIte, nZ0, nZ1, fun a k => (jτ85 a k).1, fun a k => (jτ85 a k).2, pτ85]; exact hps9 i hi
                          have jσ28 := fσ28.2.2.1
                          have pσ28 := fσ28.2.2.2
                          try simp only [forall_eq, rII, rIJ, rIP, rJJ, rJI, rJP, rPP, rPI, rPJ, g1, g2, g3, g4, g5, g6, g7, g8, Nat.reduceEqDiff, Nat.reduceAdd, false_and, and_false, true_and, and_true, reduceIte, nZ0, nZ1, fun a k => (jσ28 a k).1, fun a k => (jσ28 a k).2, pσ28]
                          refine ⟨by (first | omega | with_reducible assumption | (unfold rng; omega) | (unfold rng; (repeat' split) <;> omega)), ?_⟩
                          refine s_X16_isSound g rσ28 (by first | exact hj | (rw [fσ28.2.2.2]; exact hj)) hja (by (try simp only [rII, rIJ, rIP, rJJ, rJI, rJP, rPP, rPI, rPJ, g1, g2, g3, g4, g5, g6, g7, g8, Nat.reduceEqDiff, Nat.reduceAdd, false_and, and_false, true_and, and_true, reduceIte, nZ0, nZ1, fun a k => (jσ28 a k).1, fun a k => (jσ28 a k).2, pσ28]) <;> (first | omega | with_reducible assumption | (unfold rng; omega) | (unfold rng; (repeat' split) <;> omega))) (by (try simp only [rII, rIJ, rIP, rJJ, rJI, rJP, rPP, rPI, rPJ, g1, g2, g3, g4, g5, g6, g7, g8, Nat.reduceEqDiff, Nat.reduceAdd, false_and, and_false, true_and, and_true, reduceIte, nZ0, nZ1, fun a k => (jσ28 a k).1, fun a k => (jσ28 a k).2, pσ28]) <;> exact fun k h0 h9 => PO.fr (hvs k h0 h9) hja fσ28 (by decide)) (fun σ29 r30 rσ29 fc p9 => ?_)
                          have fσ29 : Fr ra jx rm [20, 81, 82, 115, 116, 119, 120, 121, 122] [21, 117] σ σ29 := Fr.tr fσ28 (Fr.mor (fc) (by decide) (by decide))
                          have hps9 : ∀ i : Nat, (i : Int) < v7 → gI σ29 (ra 122) i < gI σ (jx ja 12) v1.toNat := fun i hi => by rw [congrFun (fc.1 122 (by decide)).1 i]; exact hps9 i hi
                          have jσ29 := fσ29.2.2.1
                          have pσ29 := fσ29.2.2.2
                          try simp only [forall_eq, rII, rIJ, rIP, rJJ, rJI, rJP, rPP, rPI, rPJ, g1, g2, g3, g4, g5, g6, g7, g8, Nat.reduceEqDiff, Nat.reduceAdd, false_and, and_false, true_and, and_true, reduceIte, nZ0, nZ1, fun a k => (jσ29 a k).1, fun a k => (jσ29 a k).2, pσ29]
                          split
                          · rename_i hc165
                            skip
                            unfold w_X16_passMatch_186
                            try simp only [forall_eq, rII, rIJ, rIP, rJJ, rJI, rJP, rPP, rPI, rPJ, g1, g2, g3, g4, g5, g6, g7, g8, Nat.reduceEqDiff, Nat.reduceAdd, false_and, and_false, true_and, and_true, reduceIte, nZ0, nZ1, fun a k => (jσ29 a k).1, fun a k => (jσ29 a k).2, pσ29]
                            refine ⟨by (first | omega | with_reducible assumption | (unfold rng; omega) | (unfold rng; (repeat' split) <;> omega)), ?_⟩
                            refine ih85 _ _ _ ?_ ?_ ?_ ?_
                            · exact rσ29
                            · exact fσ29
                            · refine ⟨by omega, by omega, by omega, by omega, by omega, fun i hi => ?_⟩ <;> (try simp only [rII, rIJ, rIP, rJJ, rJI, rJP, rPP, rPI, rPJ, g1, g2, g3, g4, g5, g6, g7, g8, Nat.reduceEqDiff, Nat.reduceAdd, false_and, and_false, true_and, and_true, reduceIte, nZ0, nZ1, fun a k => (jσ29 a k).1, fun a k => (jσ29 a k).2, pσ29]) <;> first | omega | exact hps9 i (by omega)
                            · (try simp only [rII, rIJ, rIP, rJJ, rJI, rJP, rPP, rPI, rPJ, g1, g2, g3, g4, g5, g6, g7, g8, Nat.reduceEqDiff, Nat.reduceAdd, false_and, and_false, true_and, and_true, reduceIte, nZ0, nZ1, fun a k => (jσ29 a k).1, fun a k => (jσ29 a k).2, pσ29]) <;> (first | omega | with_reducible assumption | (unfold rng; omega) | (unfold rng; (repeat' split) <;> omega))
                          · rename_i hc165
                            skip
                            unfold w_X16_passMatch_168
                            try simp only [forall_eq, rII, rIJ, rIP, rJJ, rJI, rJP, rPP, rPI, rPJ, g1, g2, g3, g4, g5, g6, g7, g8, Nat.reduceEqDiff, Nat.reduceAdd, false_and, and_false, true_and, and_true, reduceIte, nZ0, nZ1, fun a k => (jσ29 a k).1, fun a k => (jσ29 a k).2, pσ29]
                            refine ⟨by (first | omega | with_reducible assumption | (unfold rng; omega) | (unfold rng; (repeat' split) <;> omega)), ?_⟩
                            refine s_X16_matchOne g rσ29 (by first | exact hj | (rw [fσ29.2.2.2]; exact hj)) hja (by (try simp only [rII, rIJ, rIP, rJJ, rJI, rJP, rPP, rPI, rPJ, g1, g2, g3, g4, g5, g6, g7, g8, Nat.reduceEqDiff, Nat.reduceAdd, false_and, and_false, true_and, and_true, reduceIte, nZ0, nZ1, fun a k => (jσ29 a k).1, fun a k => (jσ29 a k).2, pσ29]) <;> (first | omega | with_reducible assumption | (unfold rng; omega) | (unfold rng; (repeat' split) <;> omega))) (by (try simp only [rII, rIJ, rIP, rJJ, rJI, rJP, rPP, rPI, rPJ, g1, g2, g3, g4, g5, g6, g7, g8, Nat.reduceEqDiff, Nat.reduceAdd, false_and, and_false, true_and, and_true, reduceIte, nZ0, nZ1, fun a k => (jσ29 a k).1, fun a k => (jσ29 a k).2, pσ29]) <;> (first | omega | with_reducible assumption | (unfold rng; omega) | (unfold rng; (repeat' split) <;> omega))) (by (try simp only [rII, rIJ, rIP, rJJ, rJI, rJP, rPP, rPI, rPJ, g1, g2, g3, g4, g5, g6, g7, g8, Nat.reduceEqDiff, Nat.reduceAdd, false_and, and_false, true_and, and_true, reduceIte, nZ0, nZ1, fun a k => (jσ29 a k).1, fun a k => (jσ29 a k).2, pσ29]) <;> exact fun k h0 h9 => PO.fr (hvs k h0 h9) hja fσ29 (by decide)) (by (try simp only [rII, rIJ, rIP, rJJ, rJI, rJP, rPP, rPI, rPJ, g1, g2, g3, g4, g5, g6, g7, g8, Nat.reduceEqDiff, Nat.reduceAdd, false_and, and_false, true_and, and_true, reduceIte, nZ0, nZ1, fun a k => (jσ29 a k).1, fun a k => (jσ29 a k).2, pσ29]) <;> exact hva) (by (try simp only [rII, rIJ, rIP, rJJ, rJI, rJP, rPP, rPI, rPJ, g1, g2, g3, g4, g5, g6, g7, g8, Nat.reduceEqDiff, Nat.reduceAdd, false_and, and_false, true_and, and_true, reduceIte, nZ0, nZ1, fun a k => (jσ29 a k).1, fun a k => (jσ29 a k).2, pσ29]) <;> exact hps9) (fun σ31 r32 rσ31 fc p10 => ?_) (fun σx E rx fx px => hX _ _ rx (Fr.tr fσ29 (Fr.mor (fx) (by decide) (by decide))) px)
                            have fσ31 : Fr ra jx rm [20, 81, 82, 115, 116, 119, 120, 121, 122] [21, 117] σ σ31 := Fr.tr fσ29 (Fr.mor (fc) (by decide) (by decide))
                            have hps9 := p10.2.2
                            simp only [rII, rIJ, rIP, rJJ, rJI, rJP, rPP, rPI, rPJ, g1, g2, g3, g4, g5, g6, g7, g8, Nat.reduceEqDiff, Nat.reduceAdd, false_and, and_false, true_and, and_true, reduceIte, nZ0, nZ1, fun a k => (jσ29 a k).1, fun a k => (jσ29 a k).2, pσ29] at hps9
                            have jσ31 := fσ31.2.2.1
                            have pσ31 := fσ31.2.2.2
                            try simp only [forall_eq, rII, rIJ, rIP, rJJ, rJI, rJP, rPP, rPI, rPJ, g1, g2, g3, g4, g5, g6, g7, g8, Nat.reduceEqDiff, Nat.reduceAdd, false_and, and_false, true_and, and_true, reduceIte, nZ0, nZ1, fun a k => (jσ31 a k).1, fun a k => (jσ31 a k).2, pσ31]
                            unfold w_X16_passMatch_186
                            try simp only [forall_eq, rII, rIJ, rIP, rJJ, rJI, rJP, rPP, rPI, rPJ, g1, g2, g3, g4, g5, g6, g7, g8, Nat.reduceEqDiff, Nat.reduceAdd, false_and, and_false, true_and, and_true, reduceIte, nZ0, nZ1, fun a k => (jσ31 a k).1, fun a k => (jσ31 a k).2, pσ31]
                            refine ⟨by (first | omega | with_reducible assumption | (unfold rng; omega) | (unfold rng; (repeat' split) <;> omega)), ?_⟩
                            refine ih85 _ _ _ ?_ ?_ ?_ ?_
                            · exact rσ31
                            · exact fσ31
                            · refine ⟨by omega, by omega, by omega, by omega, by omega, fun i hi => ?_⟩ <;> (try simp only [rII, rIJ, rIP, rJJ, rJI, rJP, rPP, rPI, rPJ, g1, g2, g3, g4, g5, g6, g7, g8, Nat.reduceEqDiff, Nat.reduceAdd, false_and, and_false, true_and, and_true, reduceIte, nZ0, nZ1, fun a k => (jσ31 a k).1, fun a k => (jσ31 a k).2, pσ31]) <;> first | omega | exact hps9 i (by omega)
                            · (try simp only [rII, rIJ, rIP, rJJ, rJI, rJP, rPP, rPI, rPJ, g1, g2, g3, g4, g5, g6, g7, g8, Nat.reduceEqDiff, Nat.reduceAdd, false_and, and_false, true_and, and_true, reduceIte, nZ0, nZ1, fun a k => (jσ31 a k).1, fun a k => (jσ31 a k).2, pσ31]) <;> (first | omega | with_reducible assumption | (unfold rng; omega) | (unfold rng; (repeat' split) <;> omega))
                        · rename_i hc133
                          skip
                          unfold w_X16_passMatch_136
                          try simp only [forall_eq, rII, rIJ, rIP, rJJ, rJI, rJP, rPP, rPI, rPJ, g1, g2, g3, g4, g5, g6, g7, g8, Nat.reduceEqDiff, Nat.reduceAdd, false_and, and_false, true_and, and_true, reduceIte, nZ0, nZ1, fun a k => (jτ85 a k).1, fun a k => (jτ85 a k).2, pτ85]
                          unfold w_X16_passMatch_186
                          try simp only [forall_eq, rII, rIJ, rIP, rJJ, rJI, rJP, rPP, rPI, rPJ, g1, g2, g3, g4, g5, g6, g7, g8, Nat.reduceEqDiff, Nat.reduceAdd, false_and, and_false, true_and, and_true, reduceIte, nZ0, nZ1, fun a k => (jτ85 a k).1, fun a k => (jτ85 a k).2, pτ85]
                          refine ⟨by (first | omega | with_reducible assumption | (unfold rng; omega) | (unfold rng; (repeat' split) <;> omega)), ?_⟩
                          refine ih85 _ _ _ ?_ ?_ ?_ ?_
                          · exact rτ85
                          · exact fτ85
                          · refine ⟨by omega, by omega, by omega, by omega, by omega, fun i hi => ?_⟩ <;> (try simp only [rII, rIJ, rIP, rJJ, rJI, rJP, rPP, rPI, rPJ, g1, g2, g3, g4, g5, g6, g7, g8, Nat.reduceEqDiff, Nat.reduceAdd, false_and, and_false, true_and, and_true, reduceIte, nZ0, nZ1, fun a k => (jτ85 a k).1, fun a k => (jτ85 a k).2, pτ85]) <;> first | omega | exact hps9 i (by omega)
                          · (try simp only [rII, rIJ, rIP, rJJ, rJI, rJP, rPP, rPI, rPJ, g1, g2, g3, g4, g5, g6, g7, g8, Nat.reduceEqDiff, Nat.reduceAdd, false_and, and_false, true_and, and_true, reduceIte, nZ0, nZ1, fun a k => (jτ85 a k).1, fun a k => (jτ85 a k).2, pτ85]) <;> (first | omega | with_reducible assumption | (unfold rng; omega) | (unfold rng; (repeat' split) <;> omega))
                refine ⟨_, L85 _ _ _ _ ?_ ?_ ?_ (Nat.lt_succ_self _)⟩
                · exact rτ32
                · exact fτ32
                · refine ⟨by omega, by omega, by omega, by omega, by omega, fun i hi => ?_⟩ <;> (try simp only [rII, rIJ, rIP, rJJ, rJI, rJP, rPP, rPI, rPJ, g1, g2, g3, g4, g5, g6, g7, g8, Nat.reduceEqDiff, Nat.reduceAdd, false_and, and_false, true_and, and_true, reduceIte, nZ0, nZ1, fun a k => (jτ32 a k).1, fun a k => (jτ32 a k).2, pτ32]) <;> first | omega | exact hps9 i (by omega)
              · rename_i hc45
                skip
                unfold w_X16_passMatch_48
                try simp only [forall_eq, rII, rIJ, rIP, rJJ, rJI, rJP, rPP, rPI, rPJ, g1, g2, g3, g4, g5, g6, g7, g8, Nat.reduceEqDiff, Nat.reduceAdd, false_and, and_false, true_and, and_true, reduceIte, nZ0, nZ1, fun a k => (jτ32 a k).1, fun a k => (jτ32 a k).2, pτ32]
                unfold w_X16_passMatch_192
                try simp only [forall_eq, rII, rIJ, rIP, rJJ, rJI, rJP, rPP, rPI, rPJ, g1, g2, g3, g4, g5, g6, g7, g8, Nat.reduceEqDiff, Nat.reduceAdd, false_and, and_false, true_and, and_true, reduceIte, nZ0, nZ1, fun a k => (jτ32 a k).1, fun a k => (jτ32 a k).2, pτ32]
                refine ⟨by (first | omega | with_reducible assumption | (unfold rng; omega) | (unfold rng; (repeat' split) <;> omega)), ?_⟩
                refine ih32 _ _ ?_ ?_ ?_ ?_
                · exact rτ32
                · exact fτ32
                · (try simp only [rII, rIJ, rIP, rJJ, rJI, rJP, rPP, rPI, rPJ, g1, g2, g3, g4, g5, g6, g7, g8, Nat.reduceEqDiff, Nat.reduceAdd, false_and, and_false, true_and, and_true, reduceIte, nZ0, nZ1, fun a k => (jτ32 a k).1, fun a k => (jτ32 a k).2, pτ32]) <;> (first | omega | with_reducible assumption | (unfold rng; omega) | (unfold rng; (repeat' split) <;> omega))
                · (try simp only [rII, rIJ, rIP, rJJ, rJI, rJP, rPP, rPI, rPJ, g1, g2, g3, g4, g5, g6, g7, g8, Nat.reduceEqDiff, Nat.reduceAdd, false_and, and_false, true_and, and_true, reduceIte, nZ0, nZ1, fun a k => (jτ32 a k).1, fun a k => (jτ32 a k).2, pτ32]) <;> (first | omega | with_reducible assumption | (unfold rng; omega) | (unfold rng; (repeat' split) <;> omega))
        refine ⟨_, L32 _ _ _ ?_ ?_ ?_ (Nat.lt_succ_self _)⟩
        · exact rτ9
        · exact fτ9
        · (try simp only [rII, rIJ, rIP, rJJ, rJI, rJP, rPP, rPI, rPJ, g1, g2, g3, g4, g5, g6, g7, g8, Nat.reduceEqDiff, Nat.reduceAdd, false_and, and_false, true_and, and_true, reduceIte, nZ0, nZ1, fun a k => (jτ9 a k).1, fun a k => (jτ9 a k).2, pτ9]) <;> (first | omega | with_reducible assumption | (unfold rng; omega) | (unfold rng; (repeat' split) <;> omega))
      · rename_i hc12
        skip
        unfold w_X16_passMatch_15
        try simp only [forall_eq, rII, rIJ, rIP, rJJ, rJI, rJP, rPP, rPI, rPJ, g1, g2, g3, g4, g5, g6, g7, g8, Nat.reduceEqDiff, Nat.reduceAdd, false_and, and_false, true_and, and_true, reduceIte, nZ0, nZ1, fun a k => (jτ9 a k).1, fun a k => (jτ9 a k).2, pτ9]
        refine ⟨by (first | omega | with_reducible assumption | (unfold rng; omega) | (unfold rng; (repeat' split) <;> omega)), ?_⟩
        refine ⟨by (first | omega | with_reducible assumption | (unfold rng; omega) | (unfold rng; (repeat' split) <;> omega)), ?_⟩
        refine ih9 _ _ ?_ ?_ ?_ ?_
        · refine Rg.aI g ?_ (by simp only [rgT]; first | with_reducible exact nZ_rng _ | with_reducible exact nB_rng _ | with_reducible exact wr_rng _ | with_reducible exact i32any _ | (first | omega | with_reducible assumption | (unfold rng; omega) | (unfold rng; (repeat' split) <;> omega))); exact rτ9
        · refine Fr.aI g ?_ (by decide); exact fτ9
        · (try simp only [rII, rIJ, rIP, rJJ, rJI, rJP, rPP, rPI, rPJ, g1, g2, g3, g4, g5, g6, g7, g8, Nat.reduceEqDiff, Nat.reduceAdd, false_and, and_false, true_and, and_true, reduceIte, nZ0, nZ1, fun a k => (jτ9 a k).1, fun a k => (jτ9 a k).2, pτ9]) <;> (first | omega | with_reducible assumption | (unfold rng; omega) | (unfold rng; (repeat' split) <;> omega))
        · (try simp only [rII, rIJ, rIP, rJJ, rJI, rJP, rPP, rPI, rPJ, g1, g2, g3, g4, g5, g6, g7, g8, Nat.reduceEqDiff, Nat.reduceAdd, false_and, and_false, true_and, and_true, reduceIte, nZ0, nZ1, fun a k => (jτ9 a k).1, fun a k => (jτ9 a k).2, pτ9]) <;> (first | omega | with_reducible assumption | (unfold rng; omega) | (unfold rng; (repeat' split) <;> omega))
  refine ⟨_, L9 _ _ _ ?_ ?_ ?_ (Nat.lt_succ_self _)⟩
  · exact rσ23
  · exact fσ23
  · (try simp only [rII, rIJ, rIP, rJJ, rJI, rJP, rPP, rPI, rPJ, g1, g2, g3, g4, g5, g6, g7, g8, Nat.reduceEqDiff, Nat.reduceAdd, false_and, and_false, true_and, and_true, reduceIte, nZ0, nZ1, fun a k => (jσ23 a k).1, fun a k => (jσ23 a k).2, pσ23]) <;> (first | omega | with_reducible assumption | (unfold rng; omega) | (unfold rng; (repeat' split) <;> omega))
set_option maxHeartbeats 8000000 in
theorem s_X16_takeSpans {ra : Nat → Nat} {jx : Nat → Nat → Nat} {rm : Nat} {ja : Nat} (g : Geo ra jx rm) {σ : Sg} {v1 : Int} {v2 : Int} {v3 : Int64} {v5 : Int} (rσ : Rg ra jx rm σ) (hj : gP σ rm 17 = some ja) (hja : ja = ra 15 ∨ ja = ra 16) (hre : RecE ra jx rm ja σ) (h1 : 0 ≤ v1 ∧ v1 < 64) (h2 : 0 ≤ v2 ∧ v2 < 16) (h3 : v3.toInt ≤ 4611686018427387904) (h5 : 0 ≤ v5 ∧ v5 < 30000) (hvs : ∀ k, 0 ≤ k → k < gI σ (jx ja 12) v2.toNat → gI σ (jx ja 14) (8 * v2 + k).toNat ≠ 0 → PO jx ja σ (gI σ (jx ja 13) (8 * v2 + k).toNat)) (hst : 1 ≤ (gJ σ (jx ja 9) v2.toNat).toInt) (hto : gI σ (ra 38) v1.toNat = v2) (hk : gI σ (jx ja 2) v2.toNat ≠ 8) {Q : Sg → Unit → Prop} {X : Sg → String → Prop} (hQ : ∀ (σ' : Sg) (r : Unit), Rg ra jx rm σ' → Fr ra jx rm [20, 26, 42, 68, 69, 70, 71, 72, 73, 74, 75, 76, 77, 78, 82] [21, 27, 79, 80] σ σ' → (RecE ra jx rm ja σ') → Q σ' r) (hX : ∀ (σ' : Sg) (E : String), Rg ra jx rm σ' → Fr ra jx rm [20, 26, 42, 68, 69, 70, 71, 72, 73, 74, 75, 76, 77, 78, 82] [21, 27, 79, 80] σ σ' → (E = "StreamHouseModel$Broken" ∧ RecE ra jx rm ja σ') → X σ' E) : wp_X16_takeSpans ra jx rm v1 v2 v3 v5 σ Q X := by
  obtain ⟨g1, g2, g3, g4, g5, g6, g7, g8⟩ := id g
  have fσ : Fr ra jx rm [20, 26, 42, 68, 69, 70, 71, 72, 73, 74, 75, 76, 77, 78, 82] [21, 27, 79, 80] σ σ := Fr.rf
  obtain ⟨own0, ps0, hr0, hm0⟩ := id hre
  have hst0 : gJ σ (jx ja 9) v2.toNat ≠ 0 := fun q => by rw [q] at hst; exact absurd hst (by decide)
  have hdn := dn_le h3 hst
  unfold wp_X16_takeSpans
  unfold w_X16_takeSpans_0
  try simp only [forall_eq, rII, rIJ, rIP, rJJ, rJI, rJP, rPP, rPI, rPJ, g1, g2, g3, g4, g5, g6, g7, g8, Nat.reduceEqDiff, Nat.reduceAdd, false_and, and_false, true_and, and_true, reduceIte, nZ0, nZ1]
  refine s_X16_weigh g rσ (by first | exact hj | (rw [fσ.2.2.2]; exact hj)) hja (by (try simp only [rII, rIJ, rIP, rJJ, rJI, rJP, rPP, rPI, rPJ, g1, g2, g3, g4, g5, g6, g7, g8, Nat.reduceEqDiff, Nat.reduceAdd, false_and, and_false, true_and, and_true, reduceIte, nZ0, nZ1]) <;> (first | omega | with_reducible assumption | (unfold rng; omega) | (unfold rng; (repeat' split) <;> omega) | grind)) (by (try simp only [rII, rIJ, rIP, rJJ, rJI, rJP, rPP, rPI, rPJ, g1, g2, g3, g4, g5, g6, g7, g8, Nat.reduceEqDiff, Nat.reduceAdd, false_and, and_false, true_and, and_true, reduceIte, nZ0, nZ1]) <;> (first | omega | with_reducible assumption | (unfold rng; omega) | (unfold rng; (repeat' split) <;> omega) | grind)) (by (try simp only [rII, rIJ, rIP, rJJ, rJI, rJP, rPP, rPI, rPJ, g1, g2, g3, g4, g5, g6, g7, g8, Nat.reduceEqDiff, Nat.reduceAdd, false_and, and_false, true_and, and_true, reduceIte, nZ0, nZ1]) <;> exact hvs) (fun σ31 r32 rσ31 fc p1 => ?_)
  have fσ31 : Fr ra jx rm [20, 26, 42, 68, 69, 70, 71, 72, 73, 74, 75, 76, 77, 78, 82] [21, 27, 79, 80] σ σ31 := Fr.tr fσ (Fr.mor (fc) (by decide) (by decide))
  have fc0 := fc
  have eσ31_38 := fσ31.1 38 (by decide)
  have eσ31_81 := fσ31.1 81 (by decide)
  have jσ31 := fσ31.2.2.1
  have pσ31 := fσ31.2.2.2
  try simp only [forall_eq, rII, rIJ, rIP, rJJ, rJI, rJP, rPP, rPI, rPJ, g1, g2, g3, g4, g5, g6, g7, g8, Nat.reduceEqDiff, Nat.reduceAdd, false_and, and_false, true_and, and_true, reduceIte, nZ0, nZ1, eσ31_38.1, eσ31_38.2, eσ31_81.1, eσ31_81.2, fun a k => (jσ31 a k).1, fun a k => (jσ31 a k).2, pσ31]
  split
  · rename_i hc7
    skip
    unfold w_X16_takeSpans_11
    try simp only [forall_eq, rII, rIJ, rIP, rJJ, rJI, rJP, rPP, rPI, rPJ, g1, g2, g3, g4, g5, g6, g7, g8, Nat.reduceEqDiff, Nat.reduceAdd, false_and, and_false, true_and, and_true, reduceIte, nZ0, nZ1, eσ31_38.1, eσ31_38.2, eσ31_81.1, eσ31_81.2, fun a k => (jσ31 a k).1, fun a k => (jσ31 a k).2, pσ31]
    refine ⟨ja, by exact hj, hja, ?_⟩
    refine ⟨by (first | omega | with_reducible assumption | (unfold rng; omega) | (unfold rng; (repeat' split) <;> omega) | grind), ?_⟩
    have q2 := rσ.2.2.1 ja 10 (v2.toNat); simp only [rgJ] at q2
    refine ⟨by (first | omega | with_reducible assumption | (unfold rng; omega) | (unfold rng; (repeat' split) <;> omega) | grind), ?_⟩
    refine ⟨ja, by exact hj, hja, ?_⟩
    refine ⟨by (first | omega | with_reducible assumption | (unfold rng; omega) | (unfold rng; (repeat' split) <;> omega) | grind), ?_⟩
    refine ⟨ja, by exact hj, hja, ?_⟩
    refine ⟨by (first | omega | with_reducible assumption | (unfold rng; omega) | (unfold rng; (repeat' split) <;> omega) | grind), ?_⟩
    refine s_X16_down g rσ31 (by (try simp only [rII, rIJ, rIP, rJJ, rJI, rJP, rPP, rPI, rPJ, g1, g2, g3, g4, g5, g6, g7, g8, Nat.reduceEqDiff, Nat.reduceAdd, false_and, and_false, true_and, and_true, reduceIte, nZ0, nZ1, eσ31_38.1, eσ31_38.2, eσ31_81.1, eσ31_81.2, fun a k => (jσ31 a k).1, fun a k => (jσ31 a k).2, pσ31]) <;> exact hst0) (fun r37 p3 => ?_)
    try simp only [forall_eq, rII, rIJ, rIP, rJJ, rJI, rJP, rPP, rPI, rPJ, g1, g2, g3, g4, g5, g6, g7, g8, Nat.reduceEqDiff, Nat.reduceAdd, false_and, and_false, true_and, and_true, reduceIte, nZ0, nZ1, eσ31_38.1, eσ31_38.2, eσ31_81.1, eσ31_81.2, fun a k => (jσ31 a k).1, fun a k => (jσ31 a k).2, pσ31]
    rw [p3]
    have L62 : ∀ (fu62 : Nat) (τ62 : Sg) (v12 : Int64), Rg ra jx rm τ62 → Fr ra jx rm [20, 26, 42, 68, 69, 70, 71, 72, 73, 74, 75, 76, 77, 78, 82] [21, 27, 79, 80] σ τ62 → (RecE ra jx rm ja τ62) → (((dnJ v3 (gJ σ (jx ja 9) v2.toNat)).toInt - v12.toInt + 1).toNat) < fu62 → wl_X16_takeSpans_62 ra jx rm Q X fu62 τ62 v1 v2 v3 v5 (gJ σ (ra 81) (gI σ (jx ja 10) v2.toNat).toNat) (gJ σ (jx ja 9) v2.toNat) v12 := by
      intro fu62
      induction fu62 with
      | zero => intro τ62 _ _ _ _ h9; omega
      | succ fu62 ih62 =>
        intro τ62 v12 rτ62 fτ62 hi62 hm62
        unfold wl_X16_takeSpans_62
        have eτ62_38 := fτ62.1 38 (by decide)
        have eτ62_81 := fτ62.1 81 (by decide)
        have jτ62 := fτ62.2.2.1
        have pτ62 := fτ62.2.2.2
        unfold w_X16_takeSpans_62
        try simp only [forall_eq, rII, rIJ, rIP, rJJ, rJI, rJP, rPP, rPI, rPJ, g1, g2, g3, g4, g5, g6, g7, g8, Nat.reduceEqDiff, Nat.reduceAdd, false_and, and_false, true_and, and_true, reduceIte, nZ0, nZ1, eτ62_38.1, eτ62_38.2, eτ62_81.1, eτ62_81.2, fun a k => (jτ62 a k).1, fun a k => (jτ62 a k).2, pτ62]
        obtain ⟨own, ps, re9, me9⟩ := id hi62
        have hhd := re9.hd h1
        refine s_X16_down g rτ62 (by (try simp only [rII, rIJ, rIP, rJJ, rJI, rJP, rPP, rPI, rPJ, g1, g2, g3, g4, g5, g6, g7, g8, Nat.reduceEqDiff, Nat.reduceAdd, false_and, and_false, true_and, and_true, reduceIte, nZ0, nZ1, eτ62_38.1, eτ62_38.2, eτ62_81.1, eτ62_81.2, fun a k => (jτ62 a k).1, fun a k => (jτ62 a k).2, pτ62]) <;> exact hst0) (fun r39 p4 => ?_)
        try simp only [forall_eq, rII, rIJ, rIP, rJJ, rJI, rJP, rPP, rPI, rPJ, g1, g2, g3, g4, g5, g6, g7, g8, Nat.reduceEqDiff, Nat.reduceAdd, false_and, and_false, true_and, and_true, reduceIte, nZ0, nZ1, eτ62_38.1, eτ62_38.2, eτ62_81.1, eτ62_81.2, fun a k => (jτ62 a k).1, fun a k => (jτ62 a k).2, pτ62]
        rw [p4]
        split
        · rename_i hc71
          skip
          unfold w_X16_takeSpans_207
          try simp only [forall_eq, rII, rIJ, rIP, rJJ, rJI, rJP, rPP, rPI, rPJ, g1, g2, g3, g4, g5, g6, g7, g8, Nat.reduceEqDiff, Nat.reduceAdd, false_and, and_false, true_and, and_true, reduceIte, nZ0, nZ1, eτ62_38.1, eτ62_38.2, eτ62_81.1, eτ62_81.2, fun a k => (jτ62 a k).1, fun a k => (jτ62 a k).2, pτ62]
          refine hQ _ _ ?_ ?_ ?_
          · exact rτ62
          · exact fτ62
          · first | exact hi62 | exact RecE.fr hre fc0 (by decide) (by decide)
        · rename_i hc71
          skip
          unfold w_X16_takeSpans_74
          try simp only [forall_eq, rII, rIJ, rIP, rJJ, rJI, rJP, rPP, rPI, rPJ, g1, g2, g3, g4, g5, g6, g7, g8, Nat.reduceEqDiff, Nat.reduceAdd, false_and, and_false, true_and, and_true, reduceIte, nZ0, nZ1, eτ62_38.1, eτ62_38.2, eτ62_81.1, eτ62_81.2, fun a k => (jτ62 a k).1, fun a k => (jτ62 a k).2, pτ62]
          have hle := i64_le (by assumption : ¬ v12 > dnJ v3 (gJ σ (jx ja 9) v2.toNat))
          have hsu := i64_succ (x := v12) (by omega)
          refine ⟨by (first | omega | with_reducible assumption | (unfold rng; omega) | (unfold rng; (repeat' split) <;> omega) | grind), ?_⟩
          have q5 := rτ62.1 76 (v1.toNat); simp only [rgT] at q5
          have L85 : ∀ (fu85 : Nat) (v14 : Int) (v15 : Int), ((v15 = -1 ∨ own v15 = v1) ∧ (v14 = -1 ∨ (0 ≤ v14 ∧ v14 < 4000))) → ((if v15 < 0 then 0 else gI τ62 (ra 78) v1.toNat - ps v15).toNat) < fu85 → wl_X16_takeSpans_85 ra jx rm (wl_X16_takeSpans_62 ra jx rm Q X fu62) Q X fu85 τ62 v1 v2 v3 v5 (gJ σ (ra 81) (gI σ (jx ja 10) v2.toNat).toNat) (gJ σ (jx ja 9) v2.toNat) v12 v14 v15 := by
            intro fu85
            induction fu85 with
            | zero => intro  _ _ _ h9; omega
            | succ fu85 ih85 =>
              intro v14 v15 hi85 hm85
              unfold wl_X16_takeSpans_85
              unfold w_X16_takeSpans_85
              try simp only [forall_eq, rII, rIJ, rIP, rJJ, rJI, rJP, rPP, rPI, rPJ, g1, g2, g3, g4, g5, g6, g7, g8, Nat.reduceEqDiff, Nat.reduceAdd, false_and, and_false, true_and, and_true, reduceIte, nZ0, nZ1, eτ62_38.1, eτ62_38.2, eτ62_81.1, eτ62_81.2, fun a k => (jτ62 a k).1, fun a k => (jτ62 a k).2, pτ62]
              split
              · rename_i hc88
                skip
                unfold w_X16_takeSpans_138
                try simp only [forall_eq, rII, rIJ, rIP, rJJ, rJI, rJP, rPP, rPI, rPJ, g1, g2, g3, g4, g5, g6, g7, g8, Nat.reduceEqDiff, Nat.reduceAdd, false_and, and_false, true_and, and_true, reduceIte, nZ0, nZ1, eτ62_38.1, eτ62_38.2, eτ62_81.1, eτ62_81.2, fun a k => (jτ62 a k).1, fun a k => (jτ62 a k).2, pτ62]
                split
                · rename_i hc141
                  skip
                  unfold w_X16_takeSpans_166
                  try simp only [forall_eq, rII, rIJ, rIP, rJJ, rJI, rJP, rPP, rPI, rPJ, g1, g2, g3, g4, g5, g6, g7, g8, Nat.reduceEqDiff, Nat.reduceAdd, false_and, and_false, true_and, and_true, reduceIte, nZ0, nZ1, eτ62_38.1, eτ62_38.2, eτ62_81.1, eτ62_81.2, fun a k => (jτ62 a k).1, fun a k => (jτ62 a k).2, pτ62]
                  refine s_X16_gather (b3 := (ra 82)) (n3 := 16) g rτ62 (by first | exact hj | (rw [fτ62.2.2.2]; exact hj)) hja rfl (Or.inl ⟨82, rfl, by decide⟩) (by (try simp only [rII, rIJ, rIP, rJJ, rJI, rJP, rPP, rPI, rPJ, g1, g2, g3, g4, g5, g6, g7, g8, Nat.reduceEqDiff, Nat.reduceAdd, false_and, and_false, true_and, and_true, reduceIte, nZ0, nZ1, eτ62_38.1, eτ62_38.2, eτ62_81.1, eτ62_81.2, fun a k => (jτ62 a k).1, fun a k => (jτ62 a k).2, pτ62]) <;> (first | omega | with_reducible assumption | (unfold rng; omega) | (unfold rng; (repeat' split) <;> omega) | grind)) (by (try simp only [rII, rIJ, rIP, rJJ, rJI, rJP, rPP, rPI, rPJ, g1, g2, g3, g4, g5, g6, g7, g8, Nat.reduceEqDiff, Nat.reduceAdd, false_and, and_false, true_and, and_true, reduceIte, nZ0, nZ1, eτ62_38.1, eτ62_38.2, eτ62_81.1, eτ62_81.2, fun a k => (jτ62 a k).1, fun a k => (jτ62 a k).2, pτ62]) <;> (first | omega | with_reducible assumption | (unfold rng; omega) | (unfold rng; (repeat' split) <;> omega) | grind)) (by (try simp only [rII, rIJ, rIP, rJJ, rJI, rJP, rPP, rPI, rPJ, g1, g2, g3, g4, g5, g6, g7, g8, Nat.reduceEqDiff, Nat.reduceAdd, false_and, and_false, true_and, and_true, reduceIte, nZ0, nZ1, eτ62_38.1, eτ62_38.2, eτ62_81.1, eτ62_81.2, fun a k => (jτ62 a k).1, fun a k => (jτ62 a k).2, pτ62]) <;> (first | omega | with_reducible assumption | (unfold rng; omega) | (unfold rng; (repeat' split) <;> omega) | grind)) (by (try simp only [rII, rIJ, rIP, rJJ, rJI, rJP, rPP, rPI, rPJ, g1, g2, g3, g4, g5, g6, g7, g8, Nat.reduceEqDiff, Nat.reduceAdd, false_and, and_false, true_and, and_true, reduceIte, nZ0, nZ1, eτ62_38.1, eτ62_38.2, eτ62_81.1, eτ62_81.2, fun a k => (jτ62 a k).1, fun a k => (jτ62 a k).2, pτ62]) <;> (first | omega | with_reducible assumption | (unfold rng; omega) | (unfold rng; (repeat' split) <;> omega) | grind)) (fun σ40 _ rσ40 fc p6 => ?_)
                  have fσ40 : Fr ra jx rm [20, 26, 42, 68, 69, 70, 71, 72, 73, 74, 75, 76, 77, 78, 82] [21, 27, 79, 80] σ σ40 := Fr.tr fτ62 (Fr.mor (fc) (by decide) (by decide))
                  have hre8 := RecE.fr hi62 fc (by decide) (by decide)
                  have eσ40_38 := fσ40.1 38 (by decide)
                  have eσ40_81 := fσ40.1 81 (by decide)
                  have jσ40 := fσ40.2.2.1
                  have pσ40 := fσ40.2.2.2
                  try simp only [forall_eq, rII, rIJ, rIP, rJJ, rJI, rJP, rPP, rPI, rPJ, g1, g2, g3, g4, g5, g6, g7, g8, Nat.reduceEqDiff, Nat.reduceAdd, false_and, and_false, true_and, and_true, reduceIte, nZ0, nZ1, eσ40_38.1, eσ40_38.2, eσ40_81.1, eσ40_81.2, fun a k => (jσ40 a k).1, fun a k => (jσ40 a k).2, pσ40]
                  refine ⟨by (first | omega | with_reducible assumption | (unfold rng; omega) | (unfold rng; (repeat' split) <;> omega) | grind), ?_⟩
                  have q7 := rσ40.1 74 (v14.toNat); simp only [rgT] at q7
                  refine s_X16_joined g rσ40 (by (try simp only [rII, rIJ, rIP, rJJ, rJI, rJP, rPP, rPI, rPJ, g1, g2, g3, g4, g5, g6, g7, g8, Nat.reduceEqDiff, Nat.reduceAdd, false_and, and_false, true_and, and_true, reduceIte, nZ0, nZ1, eσ40_38.1, eσ40_38.2, eσ40_81.1, eσ40_81.2, fun a k => (jσ40 a k).1, fun a k => (jσ40 a k).2, pσ40]) <;> (first | omega | with_reducible assumption | (unfold rng; omega) | (unfold rng; (repeat' split) <;> omega) | grind)) (by (try simp only [rII, rIJ, rIP, rJJ, rJI, rJP, rPP, rPI, rPJ, g1, g2, g3, g4, g5, g6, g7, g8, Nat.reduceEqDiff, Nat.reduceAdd, false_and, and_false, true_and, and_true, reduceIte, nZ0, nZ1, eσ40_38.1, eσ40_38.2, eσ40_81.1, eσ40_81.2, fun a k => (jσ40 a k).1, fun a k => (jσ40 a k).2, pσ40]) <;> (first | omega | with_reducible assumption | (unfold rng; omega) | (unfold rng; (repeat' split) <;> omega) | grind)) (fun σ41 r42 rσ41 fc p8 => ?_) (fun σx E rx fx px => hX _ _ rx (Fr.tr fσ40 (Fr.mor (fx) (by decide) (by decide))) ⟨px, RecE.fr hre8 fx (by decide) (by decide)⟩)
                  have fσ41 : Fr ra jx rm [20, 26, 42, 68, 69, 70, 71, 72, 73, 74, 75, 76, 77, 78, 82] [21, 27, 79, 80] σ σ41 := Fr.tr fσ40 (Fr.mor (fc) (by decide) (by decide))
                  have hre8 := RecE.fr hre8 fc (by decide) (by decide)
                  have eσ41_38 := fσ41.1 38 (by decide)
                  have eσ41_81 := fσ41.1 81 (by decide)
                  have jσ41 := fσ41.2.2.1
                  have pσ41 := fσ41.2.2.2
                  try simp only [forall_eq, rII, rIJ, rIP, rJJ, rJI, rJP, rPP, rPI, rPJ, g1, g2, g3, g4, g5, g6, g7, g8, Nat.reduceEqDiff, Nat.reduceAdd, false_and, and_false, true_and, and_true, reduceIte, nZ0, nZ1, eσ41_38.1, eσ41_38.2, eσ41_81.1, eσ41_81.2, fun a k => (jσ41 a k).1, fun a k => (jσ41 a k).2, pσ41]
                  refine ⟨by (first | omega | with_reducible assumption | (unfold rng; omega) | (unfold rng; (repeat' split) <;> omega) | grind), ?_⟩
                  unfold w_X16_takeSpans_198
                  try simp only [forall_eq, rII, rIJ, rIP, rJJ, rJI, rJP, rPP, rPI, rPJ, g1, g2, g3, g4, g5, g6, g7, g8, Nat.reduceEqDiff, Nat.reduceAdd, false_and, and_false, true_and, and_true, reduceIte, nZ0, nZ1, eσ41_38.1, eσ41_38.2, eσ41_81.1, eσ41_81.2, fun a k => (jσ41 a k).1, fun a k => (jσ41 a k).2, pσ41]
                  refine ih62 _ _ ?_ ?_ ?_ ?_
                  · refine Rg.aI g ?_ (by simp only [rgT]; first | with_reducible exact nZ_rng _ | with_reducible exact nB_rng _ | with_reducible exact wr_rng _ | with_reducible exact i32any _ | (first | omega | with_reducible assumption | (unfold rng; omega) | (unfold rng; (repeat' split) <;> omega) | grind)); exact rσ41
                  · refine Fr.aI g ?_ (by decide); exact fσ41
                  · first | exact RecE.fr hre fc0 (by decide) (by decide) | exact ⟨_, _, re8, me8⟩ | exact RecE.fr (K := [74]) (S := []) hre8 (Fr.aI g Fr.rf (by decide)) (by decide) (by decide)
                  · (try simp only [rII, rIJ, rIP, rJJ, rJI, rJP, rPP, rPI, rPJ, g1, g2, g3, g4, g5, g6, g7, g8, Nat.reduceEqDiff, Nat.reduceAdd, false_and, and_false, true_and, and_true, reduceIte, nZ0, nZ1, eσ41_38.1, eσ41_38.2, eσ41_81.1, eσ41_81.2, fun a k => (jσ41 a k).1, fun a k => (jσ41 a k).2, pσ41]) <;> (first | omega | with_reducible assumption | (unfold rng; omega) | (unfold rng; (repeat' split) <;> omega) | grind)
                · rename_i hc141
                  skip
                  unfold w_X16_takeSpans_144
                  try simp only [forall_eq, rII, rIJ, rIP, rJJ, rJI, rJP, rPP, rPI, rPJ, g1, g2, g3, g4, g5, g6, g7, g8, Nat.reduceEqDiff, Nat.reduceAdd, false_and, and_false, true_and, and_true, reduceIte, nZ0, nZ1, eτ62_38.1, eτ62_38.2, eτ62_81.1, eτ62_81.2, fun a k => (jτ62 a k).1, fun a k => (jτ62 a k).2, pτ62]
                  refine s_X16_record (b9 := (ra 82)) (n9 := 16) g rτ62 rfl (Or.inl ⟨82, rfl, by decide⟩) re9 (by (try simp only [rII, rIJ, rIP, rJJ, rJI, rJP, rPP, rPI, rPJ, g1, g2, g3, g4, g5, g6, g7, g8, Nat.reduceEqDiff, Nat.reduceAdd, false_and, and_false, true_and, and_true, reduceIte, nZ0, nZ1, eτ62_38.1, eτ62_38.2, eτ62_81.1, eτ62_81.2, fun a k => (jτ62 a k).1, fun a k => (jτ62 a k).2, pτ62]) <;> (first | omega | with_reducible assumption | (unfold rng; omega) | (unfold rng; (repeat' split) <;> omega) | grind)) (by (try simp only [rII, rIJ, rIP, rJJ, rJI, rJP, rPP, rPI, rPJ, g1, g2, g3, g4, g5, g6, g7, g8, Nat.reduceEqDiff, Nat.reduceAdd, false_and, and_false, true_and, and_true, reduceIte, nZ0, nZ1, eτ62_38.1, eτ62_38.2, eτ62_81.1, eτ62_81.2, fun a k => (jτ62 a k).1, fun a k => (jτ62 a k).2, pτ62]) <;> (first | omega | with_reducible assumption | (unfold rng; omega) | (unfold rng; (repeat' split) <;> omega) | grind)) (by omega) (by (try simp only [rII, rIJ, rIP, rJJ, rJI, rJP, rPP, rPI, rPJ, g1, g2, g3, g4, g5, g6, g7, g8, Nat.reduceEqDiff, Nat.reduceAdd, false_and, and_false, true_and, and_true, reduceIte, nZ0, nZ1, eτ62_38.1, eτ62_38.2, eτ62_81.1, eτ62_81.2, fun a k => (jτ62 a k).1, fun a k => (jτ62 a k).2, pτ62]) <;> (first | omega | with_reducible assumption | (unfold rng; omega) | (unfold rng; (repeat' split) <;> omega) | grind)) (by (try simp only [rII, rIJ, rIP, rJJ, rJI, rJP, rPP, rPI, rPJ, g1, g2, g3, g4, g5, g6, g7, g8, Nat.reduceEqDiff, Nat.reduceAdd, false_and, and_false, true_and, and_true, reduceIte, nZ0, nZ1, eτ62_38.1, eτ62_38.2, eτ62_81.1, eτ62_81.2, fun a k => (jτ62 a k).1, fun a k => (jτ62 a k).2, pτ62]) <;> (first | omega | with_reducible assumption | (unfold rng; omega) | (unfold rng; (repeat' split) <;> omega) | grind)) (by (try simp only [rII, rIJ, rIP, rJJ, rJI, rJP, rPP, rPI, rPJ, g1, g2, g3, g4, g5, g6, g7, g8, Nat.reduceEqDiff, Nat.reduceAdd, false_and, and_false, true_and, and_true, reduceIte, nZ0, nZ1, eτ62_38.1, eτ62_38.2, eτ62_81.1, eτ62_81.2, fun a k => (jτ62 a k).1, fun a k => (jτ62 a k).2, pτ62]) <;> (first | omega | with_reducible assumption | (unfold rng; omega) | (unfold rng; (repeat' split) <;> omega) | grind)) (fun σ44 r45 rσ44 fc p9 => ?_) (fun σx E rx fx px => hX _ _ rx (Fr.tr fτ62 (Fr.mor (fx) (by decide) (by decide))) (by obtain ⟨e1, e2⟩ := px; subst e2; exact ⟨e1, _, _, re9, me9⟩))
                  have fσ44 : Fr ra jx rm [20, 26, 42, 68, 69, 70, 71, 72, 73, 74, 75, 76, 77, 78, 82] [21, 27, 79, 80] σ σ44 := Fr.tr fτ62 (Fr.mor (fc) (by decide) (by decide))
                  have me8 := MtI.more me9 fc (by decide) h1 p9.2.2.2.1 p9.2.2.2.2.1 p9.2.2.2.2.2 (fun a ha => (re9.2.2.1 a (by omega)).1) (fun q => absurd (show gI σ (jx ja 2) v2.toNat = 8 by simpa only [rII, rIJ, rIP, rJJ, rJI, rJP, rPP, rPI, rPJ, g1, g2, g3, g4, g5, g6, g7, g8, Nat.reduceEqDiff, Nat.reduceAdd, false_and, and_false, true_and, and_true, reduceIte, nZ0, nZ1, eτ62_38.1, eτ62_38.2, eτ62_81.1, eτ62_81.2, fun a k => (jτ62 a k).1, fun a k => (jτ62 a k).2, pτ62, hto] using q) hk)
                  have re8 := p9.1
                  have eσ44_38 := fσ44.1 38 (by decide)
                  have eσ44_81 := fσ44.1 81 (by decide)
                  have jσ44 := fσ44.2.2.1
                  have pσ44 := fσ44.2.2.2
                  try simp only [forall_eq, rII, rIJ, rIP, rJJ, rJI, rJP, rPP, rPI, rPJ, g1, g2, g3, g4, g5, g6, g7, g8, Nat.reduceEqDiff, Nat.reduceAdd, false_and, and_false, true_and, and_true, reduceIte, nZ0, nZ1, eσ44_38.1, eσ44_38.2, eσ44_81.1, eσ44_81.2, fun a k => (jσ44 a k).1, fun a k => (jσ44 a k).2, pσ44]
                  unfold w_X16_takeSpans_198
                  try simp only [forall_eq, rII, rIJ, rIP, rJJ, rJI, rJP, rPP, rPI, rPJ, g1, g2, g3, g4, g5, g6, g7, g8, Nat.reduceEqDiff, Nat.reduceAdd, false_and, and_false, true_and, and_true, reduceIte, nZ0, nZ1, eσ44_38.1, eσ44_38.2, eσ44_81.1, eσ44_81.2, fun a k => (jσ44 a k).1, fun a k => (jσ44 a k).2, pσ44]
                  refine ih62 _ _ ?_ ?_ ?_ ?_
                  · exact rσ44
                  · exact fσ44
                  · first | exact RecE.fr hre fc0 (by decide) (by decide) | exact ⟨_, _, re8, me8⟩ | exact RecE.fr (K := [74]) (S := []) hre8 (Fr.aI g Fr.rf (by decide)) (by decide) (by decide)
                  · (try simp only [rII, rIJ, rIP, rJJ, rJI, rJP, rPP, rPI, rPJ, g1, g2, g3, g4, g5, g6, g7, g8, Nat.reduceEqDiff, Nat.reduceAdd, false_and, and_false, true_and, and_true, reduceIte, nZ0, nZ1, eσ44_38.1, eσ44_38.2, eσ44_81.1, eσ44_81.2, fun a k => (jσ44 a k).1, fun a k => (jσ44 a k).2, pσ44]) <;> (first | omega | with_reducible assumption | (unfold rng; omega) | (unfold rng; (repeat' split) <;> omega) | grind)
              · rename_i hc88
                skip
                unfold w_X16_takeSpans_91
                try simp only [forall_eq, rII, rIJ, rIP, rJJ, rJI, rJP, rPP, rPI, rPJ, g1, g2, g3, g4, g5, g6, g7, g8, Nat.reduceEqDiff, Nat.reduceAdd, false_and, and_false, true_and, and_true, reduceIte, nZ0, nZ1, eτ62_38.1, eτ62_38.2, eτ62_81.1, eτ62_81.2, fun a k => (jτ62 a k).1, fun a k => (jτ62 a k).2, pτ62]
                have nv15 := re9.nd (hi85.1.resolve_left (by assumption)) h1
                refine ⟨by (first | omega | with_reducible assumption | (unfold rng; omega) | (unfold rng; (repeat' split) <;> omega) | grind), ?_⟩
                split
                · rename_i hc101
                  skip
                  unfold w_X16_takeSpans_122
                  try simp only [forall_eq, rII, rIJ, rIP, rJJ, rJI, rJP, rPP, rPI, rPJ, g1, g2, g3, g4, g5, g6, g7, g8, Nat.reduceEqDiff, Nat.reduceAdd, false_and, and_false, true_and, and_true, reduceIte, nZ0, nZ1, eτ62_38.1, eτ62_38.2, eτ62_81.1, eτ62_81.2, fun a k => (jτ62 a k).1, fun a k => (jτ62 a k).2, pτ62]
                  unfold w_X16_takeSpans_124
                  try simp only [forall_eq, rII, rIJ, rIP, rJJ, rJI, rJP, rPP, rPI, rPJ, g1, g2, g3, g4, g5, g6, g7, g8, Nat.reduceEqDiff, Nat.reduceAdd, false_and, and_false, true_and, and_true, reduceIte, nZ0, nZ1, eτ62_38.1, eτ62_38.2, eτ62_81.1, eτ62_81.2, fun a k => (jτ62 a k).1, fun a k => (jτ62 a k).2, pτ62]
                  refine ⟨by (first | omega | with_reducible assumption | (unfold rng; omega) | (unfold rng; (repeat' split) <;> omega) | grind), ?_⟩
                  have q10 := rτ62.1 75 (v15.toNat); simp only [rgT] at q10
                  refine ih85 _ _ ?_ ?_
                  · (try simp only [rII, rIJ, rIP, rJJ, rJI, rJP, rPP, rPI, rPJ, g1, g2, g3, g4, g5, g6, g7, g8, Nat.reduceEqDiff, Nat.reduceAdd, false_and, and_false, true_and, and_true, reduceIte, nZ0, nZ1, eτ62_38.1, eτ62_38.2, eτ62_81.1, eτ62_81.2, fun a k => (jτ62 a k).1, fun a k => (jτ62 a k).2, pτ62]) <;> (first | omega | with_reducible assumption | (unfold rng; omega) | (unfold rng; (repeat' split) <;> omega) | grind)
                  · (try simp only [rII, rIJ, rIP, rJJ, rJI, rJP, rPP, rPI, rPJ, g1, g2, g3, g4, g5, g6, g7, g8, Nat.reduceEqDiff, Nat.reduceAdd, false_and, and_false, true_and, and_true, reduceIte, nZ0, nZ1, eτ62_38.1, eτ62_38.2, eτ62_81.1, eτ62_81.2, fun a k => (jτ62 a k).1, fun a k => (jτ62 a k).2, pτ62]) <;> (first | omega | with_reducible assumption | (unfold rng; omega) | (unfold rng; (repeat' split) <;> omega) | grind)
                · rename_i hc101
                  skip
                  unfold w_X16_takeSpans_104
                  try simp only [forall_eq, rII, rIJ, rIP, rJJ, rJI, rJP, rPP, rPI, rPJ, g1, g2, g3, g4, g5, g6, g7, g8, Nat.reduceEqDiff, Nat.reduceAdd, false_and, and_false, true_and, and_true, reduceIte, nZ0, nZ1, eτ62_38.1, eτ62_38.2, eτ62_81.1, eτ62_81.2, fun a k => (jτ62 a k).1, fun a k => (jτ62 a k).2, pτ62]
                  refine ⟨by (first | omega | with_reducible assumption | (unfold rng; omega) | (unfold rng; (repeat' split) <;> omega) | grind), ?_⟩
                  split
                  · rename_i hc114
                    skip
                    unfold w_X16_takeSpans_122
                    try simp only [forall_eq, rII, rIJ, rIP, rJJ, rJI, rJP, rPP, rPI, rPJ, g1, g2, g3, g4, g5, g6, g7, g8, Nat.reduceEqDiff, Nat.reduceAdd, false_and, and_false, true_and, and_true, reduceIte, nZ0, nZ1, eτ62_38.1, eτ62_38.2, eτ62_81.1, eτ62_81.2, fun a k => (jτ62 a k).1, fun a k => (jτ62 a k).2, pτ62]
                    unfold w_X16_takeSpans_124
                    try simp only [forall_eq, rII, rIJ, rIP, rJJ, rJI, rJP, rPP, rPI, rPJ, g1, g2, g3, g4, g5, g6, g7, g8, Nat.reduceEqDiff, Nat.reduceAdd, false_and, and_false, true_and, and_true, reduceIte, nZ0, nZ1, eτ62_38.1, eτ62_38.2, eτ62_81.1, eτ62_81.2, fun a k => (jτ62 a k).1, fun a k => (jτ62 a k).2, pτ62]
                    refine ⟨by (first | omega | with_reducible assumption | (unfold rng; omega) | (unfold rng; (repeat' split) <;> omega) | grind), ?_⟩
                    have q11 := rτ62.1 75 (v15.toNat); simp only [rgT] at q11
                    refine ih85 _ _ ?_ ?_
                    · (try simp only [rII, rIJ, rIP, rJJ, rJI, rJP, rPP, rPI, rPJ, g1, g2, g3, g4, g5, g6, g7, g8, Nat.reduceEqDiff, Nat.reduceAdd, false_and, and_false, true_and, and_true, reduceIte, nZ0, nZ1, eτ62_38.1, eτ62_38.2, eτ62_81.1, eτ62_81.2, fun a k => (jτ62 a k).1, fun a k => (jτ62 a k).2, pτ62]) <;> (first | omega | with_reducible assumption | (unfold rng; omega) | (unfold rng; (repeat' split) <;> omega) | grind)
                    · (try simp only [rII, rIJ, rIP, rJJ, rJI, rJP, rPP, rPI, rPJ, g1, g2, g3, g4, g5, g6, g7, g8, Nat.reduceEqDiff, Nat.reduceAdd, false_and, and_false, true_and, and_true, reduceIte, nZ0, nZ1, eτ62_38.1, eτ62_38.2, eτ62_81.1, eτ62_81.2, fun a k => (jτ62 a k).1, fun a k => (jτ62 a k).2, pτ62]) <;> (first | omega | with_reducible assumption | (unfold rng; omega) | (unfold rng; (repeat' split) <;> omega) | grind)
                  · rename_i hc114
                    skip
                    unfold w_X16_takeSpans_117
                    try simp only [forall_eq, rII, rIJ, rIP, rJJ, rJI, rJP, rPP, rPI, rPJ, g1, g2, g3, g4, g5, g6, g7, g8, Nat.reduceEqDiff, Nat.reduceAdd, false_and, and_false, true_and, and_true, reduceIte, nZ0, nZ1, eτ62_38.1, eτ62_38.2, eτ62_81.1, eτ62_81.2, fun a k => (jτ62 a k).1, fun a k => (jτ62 a k).2, pτ62]
                    unfold w_X16_takeSpans_124
                    try simp only [forall_eq, rII, rIJ, rIP, rJJ, rJI, rJP, rPP, rPI, rPJ, g1, g2, g3, g4, g5, g6, g7, g8, Nat.reduceEqDiff, Nat.reduceAdd, false_and, and_false, true_and, and_true, reduceIte, nZ0, nZ1, eτ62_38.1, eτ62_38.2, eτ62_81.1, eτ62_81.2, fun a k => (jτ62 a k).1, fun a k => (jτ62 a k).2, pτ62]
                    refine ⟨by (first | omega | with_reducible assumption | (unfold rng; omega) | (unfold rng; (repeat' split) <;> omega) | grind), ?_⟩
                    have q12 := rτ62.1 75 (v15.toNat); simp only [rgT] at q12
                    refine ih85 _ _ ?_ ?_
                    · (try simp only [rII, rIJ, rIP, rJJ, rJI, rJP, rPP, rPI, rPJ, g1, g2, g3, g4, g5, g6, g7, g8, Nat.reduceEqDiff, Nat.reduceAdd, false_and, and_false, true_and, and_true, reduceIte, nZ0, nZ1, eτ62_38.1, eτ62_38.2, eτ62_81.1, eτ62_81.2, fun a k => (jτ62 a k).1, fun a k => (jτ62 a k).2, pτ62]) <;> (first | omega | with_reducible assumption | (unfold rng; omega) | (unfold rng; (repeat' split) <;> omega) | grind)
                    · (try simp only [rII, rIJ, rIP, rJJ, rJI, rJP, rPP, rPI, rPJ, g1, g2, g3, g4, g5, g6, g7, g8, Nat.reduceEqDiff, Nat.reduceAdd, false_and, and_false, true_and, and_true, reduceIte, nZ0, nZ1, eτ62_38.1, eτ62_38.2, eτ62_81.1, eτ62_81.2, fun a k => (jτ62 a k).1, fun a k => (jτ62 a k).2, pτ62]) <;> (first | omega | with_reducible assumption | (unfold rng; omega) | (unfold rng; (repeat' split) <;> omega) | grind)
          refine ⟨_, L85 _ _ _ ?_ (Nat.lt_succ_self _)⟩
          · (try simp only [rII, rIJ, rIP, rJJ, rJI, rJP, rPP, rPI, rPJ, g1, g2, g3, g4, g5, g6, g7, g8, Nat.reduceEqDiff, Nat.reduceAdd, false_and, and_false, true_and, and_true, reduceIte, nZ0, nZ1, eτ62_38.1, eτ62_38.2, eτ62_81.1, eτ62_81.2, fun a k => (jτ62 a k).1, fun a k => (jτ62 a k).2, pτ62]) <;> (first | omega | with_reducible assumption | (unfold rng; omega) | (unfold rng; (repeat' split) <;> omega) | grind)
    refine ⟨_, L62 _ _ _ ?_ ?_ ?_ (Nat.lt_succ_self _)⟩
    · exact rσ31
    · exact fσ31
    · first | exact RecE.fr hre fc0 (by decide) (by decide) | exact ⟨_, _, re8, me8⟩ | exact RecE.fr (K := [74]) (S := []) hre8 (Fr.aI g Fr.rf (by decide)) (by decide) (by decide)
  · rename_i hc7
    skip
    unfold w_X16_takeSpans_10
    try simp only [forall_eq, rII, rIJ, rIP, rJJ, rJI, rJP, rPP, rPI, rPJ, g1, g2, g3, g4, g5, g6, g7, g8, Nat.reduceEqDiff, Nat.reduceAdd, false_and, and_false, true_and, and_true, reduceIte, nZ0, nZ1, eσ31_38.1, eσ31_38.2, eσ31_81.1, eσ31_81.2, fun a k => (jσ31 a k).1, fun a k => (jσ31 a k).2, pσ31]
    refine hQ _ _ ?_ ?_ ?_
    · exact rσ31
    · exact fσ31
    · first | exact hi62 | exact RecE.fr hre fc0 (by decide) (by decide)


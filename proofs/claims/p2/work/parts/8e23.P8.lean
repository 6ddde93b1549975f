set_option maxHeartbeats 2000000 in
theorem s_X16_partOf {ra : Nat → Nat} {jx : Nat → Nat → Nat} {rm : Nat} (g : Geo ra jx rm) {σ : Sg} {v1 : Int64} (rσ : Rg ra jx rm σ) (hp : 1 ≤ gI σ rm 33) {Q : Sg → Int → Prop} {X : Sg → String → Prop} (hQ : ∀ (r : Int), (0 ≤ r ∧ r < gI σ rm 33) → Q σ r) : wp_X16_partOf ra jx rm v1 σ Q X := by
  obtain ⟨g1, g2, g3, g4, g5, g6, g7, g8⟩ := id g
  have fσ : Fr ra jx rm [] [] σ σ := Fr.rf
  unfold wp_X16_partOf
  unfold w_X16_partOf_0
  try simp only [forall_eq, rII, rIJ, rIP, rJJ, rJI, rJP, rPP, rPI, rPJ, g1, g2, g3, g4, g5, g6, g7, g8, Nat.reduceEqDiff, Nat.reduceAdd, false_and, and_false, true_and, and_true, reduceIte, nZ0, nZ1]
  refine s_X16_groupOf g rσ (fun r6 p1 => ?_)
  try simp only [forall_eq, rII, rIJ, rIP, rJJ, rJI, rJP, rPP, rPI, rPJ, g1, g2, g3, g4, g5, g6, g7, g8, Nat.reduceEqDiff, Nat.reduceAdd, false_and, and_false, true_and, and_true, reduceIte, nZ0, nZ1]
  have hq4 := rσ.2.1 33; simp only [rgS] at hq4
  have hpl := part_lt (r := r6) (p := gI σ rm 33) p1 (by omega)
  have q2 := rσ.2.1 33; simp only [rgS] at q2
  refine ⟨by (first | omega | with_reducible assumption | (unfold rng; omega) | (unfold rng; (repeat' split) <;> omega) | grind), ?_⟩
  have q3 := divI_eq (x := (r6 * (gI σ rm 33))) (y := 16) (by (first | omega | with_reducible assumption | (unfold rng; omega) | (unfold rng; (repeat' split) <;> omega) | grind)) (by (first | omega | with_reducible assumption | (unfold rng; omega) | (unfold rng; (repeat' split) <;> omega) | grind))
  refine hQ _ ?_
  · (try simp only [rII, rIJ, rIP, rJJ, rJI, rJP, rPP, rPI, rPJ, g1, g2, g3, g4, g5, g6, g7, g8, Nat.reduceEqDiff, Nat.reduceAdd, false_and, and_false, true_and, and_true, reduceIte, nZ0, nZ1]) <;> (first | omega | with_reducible assumption | (unfold rng; omega) | (unfold rng; (repeat' split) <;> omega) | grind)
set_option maxHeartbeats 2000000 in
theorem s_X16_spread {ra : Nat → Nat} {jx : Nat → Nat → Nat} {rm : Nat} (g : Geo ra jx rm) {σ : Sg} {v1 : Int} {v2 : Int} {v3 : Int64} (rσ : Rg ra jx rm σ) (hth : ThE ra rm σ) (h1 : 0 ≤ v1 ∧ v1 < 64) (h2 : 0 ≤ v2 ∧ v2 ≤ 2) (h3 : v3.toInt ≤ 4611686018427387904) {Q : Sg → Unit → Prop} {X : Sg → String → Prop} (hQ : ∀ (σ' : Sg) (r : Unit), Rg ra jx rm σ' → Fr ra jx rm [46, 47, 48, 60, 61, 62, 63, 64, 65] [66, 67] σ σ' → (ThE ra rm σ') → Q σ' r) (hX : ∀ (σ' : Sg) (E : String), Rg ra jx rm σ' → Fr ra jx rm [46, 47, 48, 60, 61, 62, 63, 64, 65] [66, 67] σ σ' → (E = "StreamHouseModel$Broken" ∧ ThE ra rm σ') → X σ' E) : wp_X16_spread ra jx rm v1 v2 v3 σ Q X := by
  obtain ⟨g1, g2, g3, g4, g5, g6, g7, g8⟩ := id g
  have fσ : Fr ra jx rm [46, 47, 48, 60, 61, 62, 63, 64, 65] [66, 67] σ σ := Fr.rf
  unfold wp_X16_spread
  unfold w_X16_spread_0
  try simp only [forall_eq, rII, rIJ, rIP, rJJ, rJI, rJP, rPP, rPI, rPJ, g1, g2, g3, g4, g5, g6, g7, g8, Nat.reduceEqDiff, Nat.reduceAdd, false_and, and_false, true_and, and_true, reduceIte, nZ0, nZ1]
  have q1 := rσ.2.1 50; simp only [rgS] at q1
  have L3 : ∀ (fu3 : Nat) (τ3 : Sg) (v5 : Int), Rg ra jx rm τ3 → Fr ra jx rm [46, 47, 48, 60, 61, 62, 63, 64, 65] [66, 67] σ τ3 → (ThE ra rm τ3 ∧ 0 ≤ v5 ∧ v5 ≤ gI σ rm 50) → ((gI σ rm 50 - v5).toNat) < fu3 → wl_X16_spread_3 ra jx rm Q X fu3 τ3 v1 v2 v3 v5 := by
    intro fu3
    induction fu3 with
    | zero => intro τ3 _ _ _ _ h9; omega
    | succ fu3 ih3 =>
      intro τ3 v5 rτ3 fτ3 hi3 hm3
      unfold wl_X16_spread_3
      have eτ3_51 := fτ3.1 51 (by decide)
      have sτ3_50 := fτ3.2.1 50 (by decide)
      have jτ3 := fτ3.2.2.1
      unfold w_X16_spread_3
      try simp only [forall_eq, rII, rIJ, rIP, rJJ, rJI, rJP, rPP, rPI, rPJ, g1, g2, g3, g4, g5, g6, g7, g8, Nat.reduceEqDiff, Nat.reduceAdd, false_and, and_false, true_and, and_true, reduceIte, nZ0, nZ1, eτ3_51.1, eτ3_51.2, sτ3_50.1, sτ3_50.2, fun a k => (jτ3 a k).1, fun a k => (jτ3 a k).2]
      have hth3 := hi3.1
      split
      · rename_i hc9
        skip
        unfold w_X16_spread_44
        try simp only [forall_eq, rII, rIJ, rIP, rJJ, rJI, rJP, rPP, rPI, rPJ, g1, g2, g3, g4, g5, g6, g7, g8, Nat.reduceEqDiff, Nat.reduceAdd, false_and, and_false, true_and, and_true, reduceIte, nZ0, nZ1, eτ3_51.1, eτ3_51.2, sτ3_50.1, sτ3_50.2, fun a k => (jτ3 a k).1, fun a k => (jτ3 a k).2]
        refine hQ _ _ ?_ ?_ ?_
        · exact rτ3
        · exact fτ3
        · assumption
      · rename_i hc9
        skip
        unfold w_X16_spread_12
        try simp only [forall_eq, rII, rIJ, rIP, rJJ, rJI, rJP, rPP, rPI, rPJ, g1, g2, g3, g4, g5, g6, g7, g8, Nat.reduceEqDiff, Nat.reduceAdd, false_and, and_false, true_and, and_true, reduceIte, nZ0, nZ1, eτ3_51.1, eτ3_51.2, sτ3_50.1, sτ3_50.2, fun a k => (jτ3 a k).1, fun a k => (jτ3 a k).2]
        refine ⟨by (first | omega | with_reducible assumption | (unfold rng; omega) | (unfold rng; (repeat' split) <;> omega) | grind), ?_⟩
        have q2 := rσ.1 51 (v5.toNat); simp only [rgT] at q2
        split
        · rename_i hc20
          skip
          unfold w_X16_spread_38
          try simp only [forall_eq, rII, rIJ, rIP, rJJ, rJI, rJP, rPP, rPI, rPJ, g1, g2, g3, g4, g5, g6, g7, g8, Nat.reduceEqDiff, Nat.reduceAdd, false_and, and_false, true_and, and_true, reduceIte, nZ0, nZ1, eτ3_51.1, eτ3_51.2, sτ3_50.1, sτ3_50.2, fun a k => (jτ3 a k).1, fun a k => (jτ3 a k).2]
          refine ⟨by (first | omega | with_reducible assumption | (unfold rng; omega) | (unfold rng; (repeat' split) <;> omega) | grind), ?_⟩
          refine ih3 _ _ ?_ ?_ ?_ ?_
          · exact rτ3
          · exact fτ3
          · refine ⟨by assumption, ?_, ?_⟩ <;> (first | omega | with_reducible assumption | (unfold rng; omega) | (unfold rng; (repeat' split) <;> omega) | grind)
          · (try simp only [rII, rIJ, rIP, rJJ, rJI, rJP, rPP, rPI, rPJ, g1, g2, g3, g4, g5, g6, g7, g8, Nat.reduceEqDiff, Nat.reduceAdd, false_and, and_false, true_and, and_true, reduceIte, nZ0, nZ1, eτ3_51.1, eτ3_51.2, sτ3_50.1, sτ3_50.2, fun a k => (jτ3 a k).1, fun a k => (jτ3 a k).2]) <;> (first | omega | with_reducible assumption | (unfold rng; omega) | (unfold rng; (repeat' split) <;> omega) | grind)
        · rename_i hc20
          skip
          unfold w_X16_spread_23
          try simp only [forall_eq, rII, rIJ, rIP, rJJ, rJI, rJP, rPP, rPI, rPJ, g1, g2, g3, g4, g5, g6, g7, g8, Nat.reduceEqDiff, Nat.reduceAdd, false_and, and_false, true_and, and_true, reduceIte, nZ0, nZ1, eτ3_51.1, eτ3_51.2, sτ3_50.1, sτ3_50.2, fun a k => (jτ3 a k).1, fun a k => (jτ3 a k).2]
          refine s_X16_box (b6 := (ra 20)) (n6 := 1600) g rτ3 rfl (Or.inl ⟨20, rfl, by decide⟩) (by assumption) (by (try simp only [rII, rIJ, rIP, rJJ, rJI, rJP, rPP, rPI, rPJ, g1, g2, g3, g4, g5, g6, g7, g8, Nat.reduceEqDiff, Nat.reduceAdd, false_and, and_false, true_and, and_true, reduceIte, nZ0, nZ1, eτ3_51.1, eτ3_51.2, sτ3_50.1, sτ3_50.2, fun a k => (jτ3 a k).1, fun a k => (jτ3 a k).2]) <;> (first | omega | with_reducible assumption | (unfold rng; omega) | (unfold rng; (repeat' split) <;> omega) | grind)) (by (try simp only [rII, rIJ, rIP, rJJ, rJI, rJP, rPP, rPI, rPJ, g1, g2, g3, g4, g5, g6, g7, g8, Nat.reduceEqDiff, Nat.reduceAdd, false_and, and_false, true_and, and_true, reduceIte, nZ0, nZ1, eτ3_51.1, eτ3_51.2, sτ3_50.1, sτ3_50.2, fun a k => (jτ3 a k).1, fun a k => (jτ3 a k).2]) <;> (first | omega | with_reducible assumption | (unfold rng; omega) | (unfold rng; (repeat' split) <;> omega) | grind)) (by (try simp only [rII, rIJ, rIP, rJJ, rJI, rJP, rPP, rPI, rPJ, g1, g2, g3, g4, g5, g6, g7, g8, Nat.reduceEqDiff, Nat.reduceAdd, false_and, and_false, true_and, and_true, reduceIte, nZ0, nZ1, eτ3_51.1, eτ3_51.2, sτ3_50.1, sτ3_50.2, fun a k => (jτ3 a k).1, fun a k => (jτ3 a k).2]) <;> (first | omega | with_reducible assumption | (unfold rng; omega) | (unfold rng; (repeat' split) <;> omega) | grind)) (by (try simp only [rII, rIJ, rIP, rJJ, rJI, rJP, rPP, rPI, rPJ, g1, g2, g3, g4, g5, g6, g7, g8, Nat.reduceEqDiff, Nat.reduceAdd, false_and, and_false, true_and, and_true, reduceIte, nZ0, nZ1, eτ3_51.1, eτ3_51.2, sτ3_50.1, sτ3_50.2, fun a k => (jτ3 a k).1, fun a k => (jτ3 a k).2]) <;> (first | omega | with_reducible assumption | (unfold rng; omega) | (unfold rng; (repeat' split) <;> omega) | grind)) (by (try simp only [rII, rIJ, rIP, rJJ, rJI, rJP, rPP, rPI, rPJ, g1, g2, g3, g4, g5, g6, g7, g8, Nat.reduceEqDiff, Nat.reduceAdd, false_and, and_false, true_and, and_true, reduceIte, nZ0, nZ1, eτ3_51.1, eτ3_51.2, sτ3_50.1, sτ3_50.2, fun a k => (jτ3 a k).1, fun a k => (jτ3 a k).2]) <;> (first | omega | with_reducible assumption | (unfold rng; omega) | (unfold rng; (repeat' split) <;> omega) | grind)) (by (try simp only [rII, rIJ, rIP, rJJ, rJI, rJP, rPP, rPI, rPJ, g1, g2, g3, g4, g5, g6, g7, g8, Nat.reduceEqDiff, Nat.reduceAdd, false_and, and_false, true_and, and_true, reduceIte, nZ0, nZ1, eτ3_51.1, eτ3_51.2, sτ3_50.1, sτ3_50.2, fun a k => (jτ3 a k).1, fun a k => (jτ3 a k).2]) <;> (first | omega | with_reducible assumption | (unfold rng; omega) | (unfold rng; (repeat' split) <;> omega) | grind)) (by (try simp only [rII, rIJ, rIP, rJJ, rJI, rJP, rPP, rPI, rPJ, g1, g2, g3, g4, g5, g6, g7, g8, Nat.reduceEqDiff, Nat.reduceAdd, false_and, and_false, true_and, and_true, reduceIte, nZ0, nZ1, eτ3_51.1, eτ3_51.2, sτ3_50.1, sτ3_50.2, fun a k => (jτ3 a k).1, fun a k => (jτ3 a k).2]) <;> (first | omega | with_reducible assumption | (unfold rng; omega) | (unfold rng; (repeat' split) <;> omega) | grind)) (fun σ3 _ rσ3 fc p3 => ?_) (fun σx E rx fx px => hX _ _ rx (Fr.tr fτ3 (Fr.mor (fx) (by decide) (by decide))) px)
          have fσ3 : Fr ra jx rm [46, 47, 48, 60, 61, 62, 63, 64, 65] [66, 67] σ σ3 := Fr.tr fτ3 (Fr.mor (fc) (by decide) (by decide))
          have eσ3_51 := fσ3.1 51 (by decide)
          have sσ3_50 := fσ3.2.1 50 (by decide)
          have jσ3 := fσ3.2.2.1
          try simp only [forall_eq, rII, rIJ, rIP, rJJ, rJI, rJP, rPP, rPI, rPJ, g1, g2, g3, g4, g5, g6, g7, g8, Nat.reduceEqDiff, Nat.reduceAdd, false_and, and_false, true_and, and_true, reduceIte, nZ0, nZ1, eσ3_51.1, eσ3_51.2, sσ3_50.1, sσ3_50.2, fun a k => (jσ3 a k).1, fun a k => (jσ3 a k).2]
          unfold w_X16_spread_38
          try simp only [forall_eq, rII, rIJ, rIP, rJJ, rJI, rJP, rPP, rPI, rPJ, g1, g2, g3, g4, g5, g6, g7, g8, Nat.reduceEqDiff, Nat.reduceAdd, false_and, and_false, true_and, and_true, reduceIte, nZ0, nZ1, eσ3_51.1, eσ3_51.2, sσ3_50.1, sσ3_50.2, fun a k => (jσ3 a k).1, fun a k => (jσ3 a k).2]
          refine ⟨by (first | omega | with_reducible assumption | (unfold rng; omega) | (unfold rng; (repeat' split) <;> omega) | grind), ?_⟩
          refine ih3 _ _ ?_ ?_ ?_ ?_
          · exact rσ3
          · exact fσ3
          · refine ⟨by assumption, ?_, ?_⟩ <;> (first | omega | with_reducible assumption | (unfold rng; omega) | (unfold rng; (repeat' split) <;> omega) | grind)
          · (try simp only [rII, rIJ, rIP, rJJ, rJI, rJP, rPP, rPI, rPJ, g1, g2, g3, g4, g5, g6, g7, g8, Nat.reduceEqDiff, Nat.reduceAdd, false_and, and_false, true_and, and_true, reduceIte, nZ0, nZ1, eσ3_51.1, eσ3_51.2, sσ3_50.1, sσ3_50.2, fun a k => (jσ3 a k).1, fun a k => (jσ3 a k).2]) <;> (first | omega | with_reducible assumption | (unfold rng; omega) | (unfold rng; (repeat' split) <;> omega) | grind)
  refine ⟨_, L3 _ _ _ ?_ ?_ ?_ (Nat.lt_succ_self _)⟩
  · exact rσ
  · exact fσ
  · refine ⟨by assumption, ?_, ?_⟩ <;> (first | omega | with_reducible assumption | (unfold rng; omega) | (unfold rng; (repeat' split) <;> omega) | grind)
set_option maxHeartbeats 4000000 in
theorem s_X16_emit {ra : Nat → Nat} {jx : Nat → Nat → Nat} {rm : Nat} {ja : Nat} {b4 : Nat} {n4 : Nat} (g : Geo ra jx rm) {σ : Sg} {v1 : Int} {v2 : Int64} {v4 : Option Nat} {v5 : Int} {v6 : Int} (rσ : Rg ra jx rm σ) (hj : gP σ rm 17 = some ja) (hja : ja = ra 15 ∨ ja = ra 16) (ha4 : v4 = some b4) (hr4 : rAr ra jx b4 101 n4) (hth : ThE ra rm σ) (h1 : 0 ≤ v1 ∧ v1 < 64) (h2 : v2.toInt ≤ 4611686018427387904) (h5 : 0 ≤ v5 ∧ v5 + 8 ≤ (n4 : Int)) (hn4 : (n4 : Int) ≤ 102416) (h6 : 0 ≤ v6 ∧ v6 < 30000) (hp : 1 ≤ gI σ rm 33) {Q : Sg → Unit → Prop} {X : Sg → String → Prop} (hQ : ∀ (σ' : Sg) (r : Unit), Rg ra jx rm σ' → Fr ra jx rm [46, 47, 48, 49, 60, 61, 62, 63, 64, 65] [66, 67] σ σ' → (ThE ra rm σ') → Q σ' r) (hX : ∀ (σ' : Sg) (E : String), Rg ra jx rm σ' → Fr ra jx rm [46, 47, 48, 49, 60, 61, 62, 63, 64, 65] [66, 67] σ σ' → (E = "StreamHouseModel$Broken" ∧ ThE ra rm σ') → X σ' E) : wp_X16_emit ra jx rm v1 v2 v4 v5 v6 σ Q X := by
  obtain ⟨g1, g2, g3, g4, g5, g6, g7, g8⟩ := id g
  have fσ : Fr ra jx rm [46, 47, 48, 49, 60, 61, 62, 63, 64, 65] [66, 67] σ σ := Fr.rf
  have hq4 := rσ.2.1 33; simp only [rgS] at hq4
  have hp0 := i64_ne (x := gI σ rm 33) (by omega) (by omega)
  unfold wp_X16_emit
  unfold w_X16_emit_0
  try simp only [forall_eq, rII, rIJ, rIP, rJJ, rJI, rJP, rPP, rPI, rPJ, g1, g2, g3, g4, g5, g6, g7, g8, Nat.reduceEqDiff, Nat.reduceAdd, false_and, and_false, true_and, and_true, reduceIte, nZ0, nZ1]
  have q1 := rσ.2.1 50; simp only [rgS] at q1
  have L11 : ∀ (fu11 : Nat) (τ11 : Sg) (v10 : Int), Rg ra jx rm τ11 → Fr ra jx rm [46, 47, 48, 49, 60, 61, 62, 63, 64, 65] [66, 67] σ τ11 → (ThE ra rm τ11 ∧ 0 ≤ v10 ∧ v10 ≤ gI σ rm 50) → ((gI σ rm 50 - v10).toNat) < fu11 → wl_X16_emit_11 ra jx rm Q X fu11 τ11 v1 v2 v4 v5 v6 v10 := by
    intro fu11
    induction fu11 with
    | zero => intro τ11 _ _ _ _ h9; omega
    | succ fu11 ih11 =>
      intro τ11 v10 rτ11 fτ11 hi11 hm11
      unfold wl_X16_emit_11
      have eτ11_38 := fτ11.1 38 (by decide)
      have eτ11_39 := fτ11.1 39 (by decide)
      have eτ11_51 := fτ11.1 51 (by decide)
      have eτ11_52 := fτ11.1 52 (by decide)
      have eτ11_53 := fτ11.1 53 (by decide)
      have sτ11_33 := fτ11.2.1 33 (by decide)
      have sτ11_50 := fτ11.2.1 50 (by decide)
      have jτ11 := fτ11.2.2.1
      have pτ11 := fτ11.2.2.2
      unfold w_X16_emit_11
      try simp only [forall_eq, rII, rIJ, rIP, rJJ, rJI, rJP, rPP, rPI, rPJ, g1, g2, g3, g4, g5, g6, g7, g8, Nat.reduceEqDiff, Nat.reduceAdd, false_and, and_false, true_and, and_true, reduceIte, nZ0, nZ1, eτ11_38.1, eτ11_38.2, eτ11_39.1, eτ11_39.2, eτ11_51.1, eτ11_51.2, eτ11_52.1, eτ11_52.2, eτ11_53.1, eτ11_53.2, sτ11_33.1, sτ11_33.2, sτ11_50.1, sτ11_50.2, fun a k => (jτ11 a k).1, fun a k => (jτ11 a k).2, pτ11]
      have hth11 := hi11.1
      split
      · rename_i hc17
        skip
        unfold w_X16_emit_217
        try simp only [forall_eq, rII, rIJ, rIP, rJJ, rJI, rJP, rPP, rPI, rPJ, g1, g2, g3, g4, g5, g6, g7, g8, Nat.reduceEqDiff, Nat.reduceAdd, false_and, and_false, true_and, and_true, reduceIte, nZ0, nZ1, eτ11_38.1, eτ11_38.2, eτ11_39.1, eτ11_39.2, eτ11_51.1, eτ11_51.2, eτ11_52.1, eτ11_52.2, eτ11_53.1, eτ11_53.2, sτ11_33.1, sτ11_33.2, sτ11_50.1, sτ11_50.2, fun a k => (jτ11 a k).1, fun a k => (jτ11 a k).2, pτ11]
        have L220 : ∀ (fu220 : Nat) (τ220 : Sg) (v10 : Int), Rg ra jx rm τ220 → Fr ra jx rm [46, 47, 48, 49, 60, 61, 62, 63, 64, 65] [66, 67] σ τ220 → (ThE ra rm τ220 ∧ 0 ≤ v10 ∧ v10 ≤ 32) → ((32 - v10).toNat) < fu220 → wl_X16_emit_220 ra jx rm Q X fu220 τ220 v1 v10 := by
          intro fu220
          induction fu220 with
          | zero => intro τ220 _ _ _ _ h9; omega
          | succ fu220 ih220 =>
            intro τ220 v10 rτ220 fτ220 hi220 hm220
            unfold wl_X16_emit_220
            have eτ220_38 := fτ220.1 38 (by decide)
            have eτ220_39 := fτ220.1 39 (by decide)
            have eτ220_51 := fτ220.1 51 (by decide)
            have eτ220_52 := fτ220.1 52 (by decide)
            have eτ220_53 := fτ220.1 53 (by decide)
            have sτ220_33 := fτ220.2.1 33 (by decide)
            have sτ220_50 := fτ220.2.1 50 (by decide)
            have jτ220 := fτ220.2.2.1
            have pτ220 := fτ220.2.2.2
            unfold w_X16_emit_220
            try simp only [forall_eq, rII, rIJ, rIP, rJJ, rJI, rJP, rPP, rPI, rPJ, g1, g2, g3, g4, g5, g6, g7, g8, Nat.reduceEqDiff, Nat.reduceAdd, false_and, and_false, true_and, and_true, reduceIte, nZ0, nZ1, eτ220_38.1, eτ220_38.2, eτ220_39.1, eτ220_39.2, eτ220_51.1, eτ220_51.2, eτ220_52.1, eτ220_52.2, eτ220_53.1, eτ220_53.2, sτ220_33.1, sτ220_33.2, sτ220_50.1, sτ220_50.2, fun a k => (jτ220 a k).1, fun a k => (jτ220 a k).2, pτ220]
            have hth220 := hi220.1
            split
            · rename_i hc224
              skip
              unfold w_X16_emit_330
              try simp only [forall_eq, rII, rIJ, rIP, rJJ, rJI, rJP, rPP, rPI, rPJ, g1, g2, g3, g4, g5, g6, g7, g8, Nat.reduceEqDiff, Nat.reduceAdd, false_and, and_false, true_and, and_true, reduceIte, nZ0, nZ1, eτ220_38.1, eτ220_38.2, eτ220_39.1, eτ220_39.2, eτ220_51.1, eτ220_51.2, eτ220_52.1, eτ220_52.2, eτ220_53.1, eτ220_53.2, sτ220_33.1, sτ220_33.2, sτ220_50.1, sτ220_50.2, fun a k => (jτ220 a k).1, fun a k => (jτ220 a k).2, pτ220]
              refine hQ _ _ ?_ ?_ ?_
              · exact rτ220
              · exact fτ220
              · assumption
            · rename_i hc224
              skip
              unfold w_X16_emit_227
              try simp only [forall_eq, rII, rIJ, rIP, rJJ, rJI, rJP, rPP, rPI, rPJ, g1, g2, g3, g4, g5, g6, g7, g8, Nat.reduceEqDiff, Nat.reduceAdd, false_and, and_false, true_and, and_true, reduceIte, nZ0, nZ1, eτ220_38.1, eτ220_38.2, eτ220_39.1, eτ220_39.2, eτ220_51.1, eτ220_51.2, eτ220_52.1, eτ220_52.2, eτ220_53.1, eτ220_53.2, sτ220_33.1, sτ220_33.2, sτ220_50.1, sτ220_50.2, fun a k => (jτ220 a k).1, fun a k => (jτ220 a k).2, pτ220]
              refine ⟨ja, by exact hj, hja, ?_⟩
              have q2 := divI_eq (x := v10) (y := 2) (by (first | omega | with_reducible assumption | (unfold rng; omega) | (unfold rng; (repeat' split) <;> omega) | grind)) (by (first | omega | with_reducible assumption | (unfold rng; omega) | (unfold rng; (repeat' split) <;> omega) | grind))
              split
              · rename_i hc242
                skip
                unfold w_X16_emit_288
                try simp only [forall_eq, rII, rIJ, rIP, rJJ, rJI, rJP, rPP, rPI, rPJ, g1, g2, g3, g4, g5, g6, g7, g8, Nat.reduceEqDiff, Nat.reduceAdd, false_and, and_false, true_and, and_true, reduceIte, nZ0, nZ1, eτ220_38.1, eτ220_38.2, eτ220_39.1, eτ220_39.2, eτ220_51.1, eτ220_51.2, eτ220_52.1, eτ220_52.2, eτ220_53.1, eτ220_53.2, sτ220_33.1, sτ220_33.2, sτ220_50.1, sτ220_50.2, fun a k => (jτ220 a k).1, fun a k => (jτ220 a k).2, pτ220]
                unfold w_X16_emit_289
                try simp only [forall_eq, rII, rIJ, rIP, rJJ, rJI, rJP, rPP, rPI, rPJ, g1, g2, g3, g4, g5, g6, g7, g8, Nat.reduceEqDiff, Nat.reduceAdd, false_and, and_false, true_and, and_true, reduceIte, nZ0, nZ1, eτ220_38.1, eτ220_38.2, eτ220_39.1, eτ220_39.2, eτ220_51.1, eτ220_51.2, eτ220_52.1, eτ220_52.2, eτ220_53.1, eτ220_53.2, sτ220_33.1, sτ220_33.2, sτ220_50.1, sτ220_50.2, fun a k => (jτ220 a k).1, fun a k => (jτ220 a k).2, pτ220]
                refine ⟨by (first | omega | with_reducible assumption | (unfold rng; omega) | (unfold rng; (repeat' split) <;> omega) | grind), ?_⟩
                try rw [if_pos (by decide)]
                unfold w_X16_emit_321
                try simp only [forall_eq, rII, rIJ, rIP, rJJ, rJI, rJP, rPP, rPI, rPJ, g1, g2, g3, g4, g5, g6, g7, g8, Nat.reduceEqDiff, Nat.reduceAdd, false_and, and_false, true_and, and_true, reduceIte, nZ0, nZ1, eτ220_38.1, eτ220_38.2, eτ220_39.1, eτ220_39.2, eτ220_51.1, eτ220_51.2, eτ220_52.1, eτ220_52.2, eτ220_53.1, eτ220_53.2, sτ220_33.1, sτ220_33.2, sτ220_50.1, sτ220_50.2, fun a k => (jτ220 a k).1, fun a k => (jτ220 a k).2, pτ220]
                unfold w_X16_emit_322
                try simp only [forall_eq, rII, rIJ, rIP, rJJ, rJI, rJP, rPP, rPI, rPJ, g1, g2, g3, g4, g5, g6, g7, g8, Nat.reduceEqDiff, Nat.reduceAdd, false_and, and_false, true_and, and_true, reduceIte, nZ0, nZ1, eτ220_38.1, eτ220_38.2, eτ220_39.1, eτ220_39.2, eτ220_51.1, eτ220_51.2, eτ220_52.1, eτ220_52.2, eτ220_53.1, eτ220_53.2, sτ220_33.1, sτ220_33.2, sτ220_50.1, sτ220_50.2, fun a k => (jτ220 a k).1, fun a k => (jτ220 a k).2, pτ220]
                refine ⟨by (first | omega | with_reducible assumption | (unfold rng; omega) | (unfold rng; (repeat' split) <;> omega) | grind), ?_⟩
                refine ⟨by (first | omega | with_reducible assumption | (unfold rng; omega) | (unfold rng; (repeat' split) <;> omega) | grind), ?_⟩
                refine ih220 _ _ ?_ ?_ ?_ ?_
                · refine Rg.aJ g ?_ (by simp only [rlT]; first | with_reducible assumption | omega | exact Int64.toInt_le _ | (rw [Int64.toInt_ofInt_of_le (by omega) (by omega)]; omega) | grind); exact rτ220
                · refine Fr.aJ g ?_ (by decide); exact fτ220
                · refine ⟨?_, ?_, ?_⟩ <;> first | assumption | omega | exact ThE.fr (K := [49]) (S := []) hth220 (Fr.aJ g Fr.rf (by decide)) (by decide) (by decide)
                · (try simp only [rII, rIJ, rIP, rJJ, rJI, rJP, rPP, rPI, rPJ, g1, g2, g3, g4, g5, g6, g7, g8, Nat.reduceEqDiff, Nat.reduceAdd, false_and, and_false, true_and, and_true, reduceIte, nZ0, nZ1, eτ220_38.1, eτ220_38.2, eτ220_39.1, eτ220_39.2, eτ220_51.1, eτ220_51.2, eτ220_52.1, eτ220_52.2, eτ220_53.1, eτ220_53.2, sτ220_33.1, sτ220_33.2, sτ220_50.1, sτ220_50.2, fun a k => (jτ220 a k).1, fun a k => (jτ220 a k).2, pτ220]) <;> (first | omega | with_reducible assumption | (unfold rng; omega) | (unfold rng; (repeat' split) <;> omega) | grind)
              · rename_i hc242
                skip
                unfold w_X16_emit_245
                try simp only [forall_eq, rII, rIJ, rIP, rJJ, rJI, rJP, rPP, rPI, rPJ, g1, g2, g3, g4, g5, g6, g7, g8, Nat.reduceEqDiff, Nat.reduceAdd, false_and, and_false, true_and, and_true, reduceIte, nZ0, nZ1, eτ220_38.1, eτ220_38.2, eτ220_39.1, eτ220_39.2, eτ220_51.1, eτ220_51.2, eτ220_52.1, eτ220_52.2, eτ220_53.1, eτ220_53.2, sτ220_33.1, sτ220_33.2, sτ220_50.1, sτ220_50.2, fun a k => (jτ220 a k).1, fun a k => (jτ220 a k).2, pτ220]
                have q4 := remI_eq (x := v10) (y := 2) (by (first | omega | with_reducible assumption | (unfold rng; omega) | (unfold rng; (repeat' split) <;> omega) | grind)) (by (first | omega | with_reducible assumption | (unfold rng; omega) | (unfold rng; (repeat' split) <;> omega) | grind))
                split
                · rename_i hc249
                  skip
                  unfold w_X16_emit_265
                  try simp only [forall_eq, rII, rIJ, rIP, rJJ, rJI, rJP, rPP, rPI, rPJ, g1, g2, g3, g4, g5, g6, g7, g8, Nat.reduceEqDiff, Nat.reduceAdd, false_and, and_false, true_and, and_true, reduceIte, nZ0, nZ1, eτ220_38.1, eτ220_38.2, eτ220_39.1, eτ220_39.2, eτ220_51.1, eτ220_51.2, eτ220_52.1, eτ220_52.2, eτ220_53.1, eτ220_53.2, sτ220_33.1, sτ220_33.2, sτ220_50.1, sτ220_50.2, fun a k => (jτ220 a k).1, fun a k => (jτ220 a k).2, pτ220]
                  refine ⟨ja, by exact hj, hja, ?_⟩
                  refine ⟨by (first | omega | with_reducible assumption | (unfold rng; omega) | (unfold rng; (repeat' split) <;> omega) | grind), ?_⟩
                  unfold w_X16_emit_275
                  try simp only [forall_eq, rII, rIJ, rIP, rJJ, rJI, rJP, rPP, rPI, rPJ, g1, g2, g3, g4, g5, g6, g7, g8, Nat.reduceEqDiff, Nat.reduceAdd, false_and, and_false, true_and, and_true, reduceIte, nZ0, nZ1, eτ220_38.1, eτ220_38.2, eτ220_39.1, eτ220_39.2, eτ220_51.1, eτ220_51.2, eτ220_52.1, eτ220_52.2, eτ220_53.1, eτ220_53.2, sτ220_33.1, sτ220_33.2, sτ220_50.1, sτ220_50.2, fun a k => (jτ220 a k).1, fun a k => (jτ220 a k).2, pτ220]
                  refine ⟨by (first | omega | with_reducible assumption | (unfold rng; omega) | (unfold rng; (repeat' split) <;> omega) | grind), ?_⟩
                  have q5 := rσ.2.2.1 ja 5 ((divI v10 2).toNat); simp only [rgJ] at q5
                  have q6 := rσ.1 38 (v1.toNat); simp only [rgT] at q6
                  split
                  · rename_i hc281
                    skip
                    unfold w_X16_emit_288
                    try simp only [forall_eq, rII, rIJ, rIP, rJJ, rJI, rJP, rPP, rPI, rPJ, g1, g2, g3, g4, g5, g6, g7, g8, Nat.reduceEqDiff, Nat.reduceAdd, false_and, and_false, true_and, and_true, reduceIte, nZ0, nZ1, eτ220_38.1, eτ220_38.2, eτ220_39.1, eτ220_39.2, eτ220_51.1, eτ220_51.2, eτ220_52.1, eτ220_52.2, eτ220_53.1, eτ220_53.2, sτ220_33.1, sτ220_33.2, sτ220_50.1, sτ220_50.2, fun a k => (jτ220 a k).1, fun a k => (jτ220 a k).2, pτ220]
                    unfold w_X16_emit_289
                    try simp only [forall_eq, rII, rIJ, rIP, rJJ, rJI, rJP, rPP, rPI, rPJ, g1, g2, g3, g4, g5, g6, g7, g8, Nat.reduceEqDiff, Nat.reduceAdd, false_and, and_false, true_and, and_true, reduceIte, nZ0, nZ1, eτ220_38.1, eτ220_38.2, eτ220_39.1, eτ220_39.2, eτ220_51.1, eτ220_51.2, eτ220_52.1, eτ220_52.2, eτ220_53.1, eτ220_53.2, sτ220_33.1, sτ220_33.2, sτ220_50.1, sτ220_50.2, fun a k => (jτ220 a k).1, fun a k => (jτ220 a k).2, pτ220]
                    refine ⟨by (first | omega | with_reducible assumption | (unfold rng; omega) | (unfold rng; (repeat' split) <;> omega) | grind), ?_⟩
                    try rw [if_pos (by decide)]
                    unfold w_X16_emit_321
                    try simp only [forall_eq, rII, rIJ, rIP, rJJ, rJI, rJP, rPP, rPI, rPJ, g1, g2, g3, g4, g5, g6, g7, g8, Nat.reduceEqDiff, Nat.reduceAdd, false_and, and_false, true_and, and_true, reduceIte, nZ0, nZ1, eτ220_38.1, eτ220_38.2, eτ220_39.1, eτ220_39.2, eτ220_51.1, eτ220_51.2, eτ220_52.1, eτ220_52.2, eτ220_53.1, eτ220_53.2, sτ220_33.1, sτ220_33.2, sτ220_50.1, sτ220_50.2, fun a k => (jτ220 a k).1, fun a k => (jτ220 a k).2, pτ220]
                    unfold w_X16_emit_322
                    try simp only [forall_eq, rII, rIJ, rIP, rJJ, rJI, rJP, rPP, rPI, rPJ, g1, g2, g3, g4, g5, g6, g7, g8, Nat.reduceEqDiff, Nat.reduceAdd, false_and, and_false, true_and, and_true, reduceIte, nZ0, nZ1, eτ220_38.1, eτ220_38.2, eτ220_39.1, eτ220_39.2, eτ220_51.1, eτ220_51.2, eτ220_52.1, eτ220_52.2, eτ220_53.1, eτ220_53.2, sτ220_33.1, sτ220_33.2, sτ220_50.1, sτ220_50.2, fun a k => (jτ220 a k).1, fun a k => (jτ220 a k).2, pτ220]
                    refine ⟨by (first | omega | with_reducible assumption | (unfold rng; omega) | (unfold rng; (repeat' split) <;> omega) | grind), ?_⟩
                    refine ⟨by (first | omega | with_reducible assumption | (unfold rng; omega) | (unfold rng; (repeat' split) <;> omega) | grind), ?_⟩
                    refine ih220 _ _ ?_ ?_ ?_ ?_
                    · refine Rg.aJ g ?_ (by simp only [rlT]; first | with_reducible assumption | omega | exact Int64.toInt_le _ | (rw [Int64.toInt_ofInt_of_le (by omega) (by omega)]; omega) | grind); exact rτ220
                    · refine Fr.aJ g ?_ (by decide); exact fτ220
                    · refine ⟨?_, ?_, ?_⟩ <;> first | assumption | omega | exact ThE.fr (K := [49]) (S := []) hth220 (Fr.aJ g Fr.rf (by decide)) (by decide) (by decide)
                    · (try simp only [rII, rIJ, rIP, rJJ, rJI, rJP, rPP, rPI, rPJ, g1, g2, g3, g4, g5, g6, g7, g8, Nat.reduceEqDiff, Nat.reduceAdd, false_and, and_false, true_and, and_true, reduceIte, nZ0, nZ1, eτ220_38.1, eτ220_38.2, eτ220_39.1, eτ220_39.2, eτ220_51.1, eτ220_51.2, eτ220_52.1, eτ220_52.2, eτ220_53.1, eτ220_53.2, sτ220_33.1, sτ220_33.2, sτ220_50.1, sτ220_50.2, fun a k => (jτ220 a k).1, fun a k => (jτ220 a k).2, pτ220]) <;> (first | omega | with_reducible assumption | (unfold rng; omega) | (unfold rng; (repeat' split) <;> omega) | grind)
                  · rename_i hc281
                    skip
                    unfold w_X16_emit_284
                    try simp only [forall_eq, rII, rIJ, rIP, rJJ, rJI, rJP, rPP, rPI, rPJ, g1, g2, g3, g4, g5, g6, g7, g8, Nat.reduceEqDiff, Nat.reduceAdd, false_and, and_false, true_and, and_true, reduceIte, nZ0, nZ1, eτ220_38.1, eτ220_38.2, eτ220_39.1, eτ220_39.2, eτ220_51.1, eτ220_51.2, eτ220_52.1, eτ220_52.2, eτ220_53.1, eτ220_53.2, sτ220_33.1, sτ220_33.2, sτ220_50.1, sτ220_50.2, fun a k => (jτ220 a k).1, fun a k => (jτ220 a k).2, pτ220]
                    unfold w_X16_emit_289
                    try simp only [forall_eq, rII, rIJ, rIP, rJJ, rJI, rJP, rPP, rPI, rPJ, g1, g2, g3, g4, g5, g6, g7, g8, Nat.reduceEqDiff, Nat.reduceAdd, false_and, and_false, true_and, and_true, reduceIte, nZ0, nZ1, eτ220_38.1, eτ220_38.2, eτ220_39.1, eτ220_39.2, eτ220_51.1, eτ220_51.2, eτ220_52.1, eτ220_52.2, eτ220_53.1, eτ220_53.2, sτ220_33.1, sτ220_33.2, sτ220_50.1, sτ220_50.2, fun a k => (jτ220 a k).1, fun a k => (jτ220 a k).2, pτ220]
                    refine ⟨by (first | omega | with_reducible assumption | (unfold rng; omega) | (unfold rng; (repeat' split) <;> omega) | grind), ?_⟩
                    try rw [if_neg (by decide)]
                    unfold w_X16_emit_304
                    try simp only [forall_eq, rII, rIJ, rIP, rJJ, rJI, rJP, rPP, rPI, rPJ, g1, g2, g3, g4, g5, g6, g7, g8, Nat.reduceEqDiff, Nat.reduceAdd, false_and, and_false, true_and, and_true, reduceIte, nZ0, nZ1, eτ220_38.1, eτ220_38.2, eτ220_39.1, eτ220_39.2, eτ220_51.1, eτ220_51.2, eτ220_52.1, eτ220_52.2, eτ220_53.1, eτ220_53.2, sτ220_33.1, sτ220_33.2, sτ220_50.1, sτ220_50.2, fun a k => (jτ220 a k).1, fun a k => (jτ220 a k).2, pτ220]
                    refine ⟨by (first | omega | with_reducible assumption | (unfold rng; omega) | (unfold rng; (repeat' split) <;> omega) | grind), ?_⟩
                    refine s_X16_isSingle g rτ220 (by first | exact hj | (rw [fτ220.2.2.2]; exact hj)) hja (by (try simp only [rII, rIJ, rIP, rJJ, rJI, rJP, rPP, rPI, rPJ, g1, g2, g3, g4, g5, g6, g7, g8, Nat.reduceEqDiff, Nat.reduceAdd, false_and, and_false, true_and, and_true, reduceIte, nZ0, nZ1, eτ220_38.1, eτ220_38.2, eτ220_39.1, eτ220_39.2, eτ220_51.1, eτ220_51.2, eτ220_52.1, eτ220_52.2, eτ220_53.1, eτ220_53.2, sτ220_33.1, sτ220_33.2, sτ220_50.1, sτ220_50.2, fun a k => (jτ220 a k).1, fun a k => (jτ220 a k).2, pτ220]) <;> (first | omega | with_reducible assumption | (unfold rng; omega) | (unfold rng; (repeat' split) <;> omega) | grind)) (fun r44 p7 => ?_)
                    try simp only [forall_eq, rII, rIJ, rIP, rJJ, rJI, rJP, rPP, rPI, rPJ, g1, g2, g3, g4, g5, g6, g7, g8, Nat.reduceEqDiff, Nat.reduceAdd, false_and, and_false, true_and, and_true, reduceIte, nZ0, nZ1, eτ220_38.1, eτ220_38.2, eτ220_39.1, eτ220_39.2, eτ220_51.1, eτ220_51.2, eτ220_52.1, eτ220_52.2, eτ220_53.1, eτ220_53.2, sτ220_33.1, sτ220_33.2, sτ220_50.1, sτ220_50.2, fun a k => (jτ220 a k).1, fun a k => (jτ220 a k).2, pτ220]
                    split
                    · rename_i hc314
                      skip
                      unfold w_X16_emit_321
                      try simp only [forall_eq, rII, rIJ, rIP, rJJ, rJI, rJP, rPP, rPI, rPJ, g1, g2, g3, g4, g5, g6, g7, g8, Nat.reduceEqDiff, Nat.reduceAdd, false_and, and_false, true_and, and_true, reduceIte, nZ0, nZ1, eτ220_38.1, eτ220_38.2, eτ220_39.1, eτ220_39.2, eτ220_51.1, eτ220_51.2, eτ220_52.1, eτ220_52.2, eτ220_53.1, eτ220_53.2, sτ220_33.1, sτ220_33.2, sτ220_50.1, sτ220_50.2, fun a k => (jτ220 a k).1, fun a k => (jτ220 a k).2, pτ220]
                      unfold w_X16_emit_322
                      try simp only [forall_eq, rII, rIJ, rIP, rJJ, rJI, rJP, rPP, rPI, rPJ, g1, g2, g3, g4, g5, g6, g7, g8, Nat.reduceEqDiff, Nat.reduceAdd, false_and, and_false, true_and, and_true, reduceIte, nZ0, nZ1, eτ220_38.1, eτ220_38.2, eτ220_39.1, eτ220_39.2, eτ220_51.1, eτ220_51.2, eτ220_52.1, eτ220_52.2, eτ220_53.1, eτ220_53.2, sτ220_33.1, sτ220_33.2, sτ220_50.1, sτ220_50.2, fun a k => (jτ220 a k).1, fun a k => (jτ220 a k).2, pτ220]
                      refine ⟨by (first | omega | with_reducible assumption | (unfold rng; omega) | (unfold rng; (repeat' split) <;> omega) | grind), ?_⟩
                      refine ⟨by (first | omega | with_reducible assumption | (unfold rng; omega) | (unfold rng; (repeat' split) <;> omega) | grind), ?_⟩
                      refine ih220 _ _ ?_ ?_ ?_ ?_
                      · refine Rg.aJ g ?_ (by simp only [rlT]; first | with_reducible assumption | omega | exact Int64.toInt_le _ | (rw [Int64.toInt_ofInt_of_le (by omega) (by omega)]; omega) | grind); exact rτ220
                      · refine Fr.aJ g ?_ (by decide); exact fτ220
                      · refine ⟨?_, ?_, ?_⟩ <;> first | assumption | omega | exact ThE.fr (K := [49]) (S := []) hth220 (Fr.aJ g Fr.rf (by decide)) (by decide) (by decide)
                      · (try simp only [rII, rIJ, rIP, rJJ, rJI, rJP, rPP, rPI, rPJ, g1, g2, g3, g4, g5, g6, g7, g8, Nat.reduceEqDiff, Nat.reduceAdd, false_and, and_false, true_and, and_true, reduceIte, nZ0, nZ1, eτ220_38.1, eτ220_38.2, eτ220_39.1, eτ220_39.2, eτ220_51.1, eτ220_51.2, eτ220_52.1, eτ220_52.2, eτ220_53.1, eτ220_53.2, sτ220_33.1, sτ220_33.2, sτ220_50.1, sτ220_50.2, fun a k => (jτ220 a k).1, fun a k => (jτ220 a k).2, pτ220]) <;> (first | omega | with_reducible assumption | (unfold rng; omega) | (unfold rng; (repeat' split) <;> omega) | grind)
                    · rename_i hc314
                      skip
                      unfold w_X16_emit_317
                      try simp only [forall_eq, rII, rIJ, rIP, rJJ, rJI, rJP, rPP, rPI, rPJ, g1, g2, g3, g4, g5, g6, g7, g8, Nat.reduceEqDiff, Nat.reduceAdd, false_and, and_false, true_and, and_true, reduceIte, nZ0, nZ1, eτ220_38.1, eτ220_38.2, eτ220_39.1, eτ220_39.2, eτ220_51.1, eτ220_51.2, eτ220_52.1, eτ220_52.2, eτ220_53.1, eτ220_53.2, sτ220_33.1, sτ220_33.2, sτ220_50.1, sτ220_50.2, fun a k => (jτ220 a k).1, fun a k => (jτ220 a k).2, pτ220]
                      unfold w_X16_emit_322
                      try simp only [forall_eq, rII, rIJ, rIP, rJJ, rJI, rJP, rPP, rPI, rPJ, g1, g2, g3, g4, g5, g6, g7, g8, Nat.reduceEqDiff, Nat.reduceAdd, false_and, and_false, true_and, and_true, reduceIte, nZ0, nZ1, eτ220_38.1, eτ220_38.2, eτ220_39.1, eτ220_39.2, eτ220_51.1, eτ220_51.2, eτ220_52.1, eτ220_52.2, eτ220_53.1, eτ220_53.2, sτ220_33.1, sτ220_33.2, sτ220_50.1, sτ220_50.2, fun a k => (jτ220 a k).1, fun a k => (jτ220 a k).2, pτ220]
                      refine ⟨by (first | omega | with_reducible assumption | (unfold rng; omega) | (unfold rng; (repeat' split) <;> omega) | grind), ?_⟩
                      refine ⟨by (first | omega | with_reducible assumption | (unfold rng; omega) | (unfold rng; (repeat' split) <;> omega) | grind), ?_⟩
                      refine ih220 _ _ ?_ ?_ ?_ ?_
                      · refine Rg.aJ g ?_ (by simp only [rlT]; first | with_reducible assumption | omega | exact Int64.toInt_le _ | (rw [Int64.toInt_ofInt_of_le (by omega) (by omega)]; omega) | grind); exact rτ220
                      · refine Fr.aJ g ?_ (by decide); exact fτ220
                      · refine ⟨?_, ?_, ?_⟩ <;> first | assumption | omega | exact ThE.fr (K := [49]) (S := []) hth220 (Fr.aJ g Fr.rf (by decide)) (by decide) (by decide)
                      · (try simp only [rII, rIJ, rIP, rJJ, rJI, rJP, rPP, rPI, rPJ, g1, g2, g3, g4, g5, g6, g7, g8, Nat.reduceEqDiff, Nat.reduceAdd, false_and, and_false, true_and, and_true, reduceIte, nZ0, nZ1, eτ220_38.1, eτ220_38.2, eτ220_39.1, eτ220_39.2, eτ220_51.1, eτ220_51.2, eτ220_52.1, eτ220_52.2, eτ220_53.1, eτ220_53.2, sτ220_33.1, sτ220_33.2, sτ220_50.1, sτ220_50.2, fun a k => (jτ220 a k).1, fun a k => (jτ220 a k).2, pτ220]) <;> (first | omega | with_reducible assumption | (unfold rng; omega) | (unfold rng; (repeat' split) <;> omega) | grind)
                · rename_i hc249
                  skip
                  unfold w_X16_emit_252
                  try simp only [forall_eq, rII, rIJ, rIP, rJJ, rJI, rJP, rPP, rPI, rPJ, g1, g2, g3, g4, g5, g6, g7, g8, Nat.reduceEqDiff, Nat.reduceAdd, false_and, and_false, true_and, and_true, reduceIte, nZ0, nZ1, eτ220_38.1, eτ220_38.2, eτ220_39.1, eτ220_39.2, eτ220_51.1, eτ220_51.2, eτ220_52.1, eτ220_52.2, eτ220_53.1, eτ220_53.2, sτ220_33.1, sτ220_33.2, sτ220_50.1, sτ220_50.2, fun a k => (jτ220 a k).1, fun a k => (jτ220 a k).2, pτ220]
                  refine ⟨ja, by exact hj, hja, ?_⟩
                  refine ⟨by (first | omega | with_reducible assumption | (unfold rng; omega) | (unfold rng; (repeat' split) <;> omega) | grind), ?_⟩
                  unfold w_X16_emit_275
                  try simp only [forall_eq, rII, rIJ, rIP, rJJ, rJI, rJP, rPP, rPI, rPJ, g1, g2, g3, g4, g5, g6, g7, g8, Nat.reduceEqDiff, Nat.reduceAdd, false_and, and_false, true_and, and_true, reduceIte, nZ0, nZ1, eτ220_38.1, eτ220_38.2, eτ220_39.1, eτ220_39.2, eτ220_51.1, eτ220_51.2, eτ220_52.1, eτ220_52.2, eτ220_53.1, eτ220_53.2, sτ220_33.1, sτ220_33.2, sτ220_50.1, sτ220_50.2, fun a k => (jτ220 a k).1, fun a k => (jτ220 a k).2, pτ220]
                  refine ⟨by (first | omega | with_reducible assumption | (unfold rng; omega) | (unfold rng; (repeat' split) <;> omega) | grind), ?_⟩
                  have q8 := rσ.2.2.1 ja 4 ((divI v10 2).toNat); simp only [rgJ] at q8
                  have q9 := rσ.1 38 (v1.toNat); simp only [rgT] at q9
                  split
                  · rename_i hc281
                    skip
                    unfold w_X16_emit_288
                    try simp only [forall_eq, rII, rIJ, rIP, rJJ, rJI, rJP, rPP, rPI, rPJ, g1, g2, g3, g4, g5, g6, g7, g8, Nat.reduceEqDiff, Nat.reduceAdd, false_and, and_false, true_and, and_true, reduceIte, nZ0, nZ1, eτ220_38.1, eτ220_38.2, eτ220_39.1, eτ220_39.2, eτ220_51.1, eτ220_51.2, eτ220_52.1, eτ220_52.2, eτ220_53.1, eτ220_53.2, sτ220_33.1, sτ220_33.2, sτ220_50.1, sτ220_50.2, fun a k => (jτ220 a k).1, fun a k => (jτ220 a k).2, pτ220]
                    unfold w_X16_emit_289
                    try simp only [forall_eq, rII, rIJ, rIP, rJJ, rJI, rJP, rPP, rPI, rPJ, g1, g2, g3, g4, g5, g6, g7, g8, Nat.reduceEqDiff, Nat.reduceAdd, false_and, and_false, true_and, and_true, reduceIte, nZ0, nZ1, eτ220_38.1, eτ220_38.2, eτ220_39.1, eτ220_39.2, eτ220_51.1, eτ220_51.2, eτ220_52.1, eτ220_52.2, eτ220_53.1, eτ220_53.2, sτ220_33.1, sτ220_33.2, sτ220_50.1, sτ220_50.2, fun a k => (jτ220 a k).1, fun a k => (jτ220 a k).2, pτ220]
                    refine ⟨by (first | omega | with_reducible assumption | (unfold rng; omega) | (unfold rng; (repeat' split) <;> omega) | grind), ?_⟩
                    try rw [if_pos (by decide)]
                    unfold w_X16_emit_321
                    try simp only [forall_eq, rII, rIJ, rIP, rJJ, rJI, rJP, rPP, rPI, rPJ, g1, g2, g3, g4, g5, g6, g7, g8, Nat.reduceEqDiff, Nat.reduceAdd, false_and, and_false, true_and, and_true, reduceIte, nZ0, nZ1, eτ220_38.1, eτ220_38.2, eτ220_39.1, eτ220_39.2, eτ220_51.1, eτ220_51.2, eτ220_52.1, eτ220_52.2, eτ220_53.1, eτ220_53.2, sτ220_33.1, sτ220_33.2, sτ220_50.1, sτ220_50.2, fun a k => (jτ220 a k).1, fun a k => (jτ220 a k).2, pτ220]
                    unfold w_X16_emit_322
                    try simp only [forall_eq, rII, rIJ, rIP, rJJ, rJI, rJP, rPP, rPI, rPJ, g1, g2, g3, g4, g5, g6, g7, g8, Nat.reduceEqDiff, Nat.reduceAdd, false_and, and_false, true_and, and_true, reduceIte, nZ0, nZ1, eτ220_38.1, eτ220_38.2, eτ220_39.1, eτ220_39.2, eτ220_51.1, eτ220_51.2, eτ220_52.1, eτ220_52.2, eτ220_53.1, eτ220_53.2, sτ220_33.1, sτ220_33.2, sτ220_50.1, sτ220_50.2, fun a k => (jτ220 a k).1, fun a k => (jτ220 a k).2, pτ220]
                    refine ⟨by (first | omega | with_reducible assumption | (unfold rng; omega) | (unfold rng; (repeat' split) <;> omega) | grind), ?_⟩
                    refine ⟨by (first | omega | with_reducible assumption | (unfold rng; omega) | (unfold rng; (repeat' split) <;> omega) | grind), ?_⟩
                    refine ih220 _ _ ?_ ?_ ?_ ?_
                    · refine Rg.aJ g ?_ (by simp only [rlT]; first | with_reducible assumption | omega | exact Int64.toInt_le _ | (rw [Int64.toInt_ofInt_of_le (by omega) (by omega)]; omega) | grind); exact rτ220
                    · refine Fr.aJ g ?_ (by decide); exact fτ220
                    · refine ⟨?_, ?_, ?_⟩ <;> first | assumption | omega | exact ThE.fr (K := [49]) (S := []) hth220 (Fr.aJ g Fr.rf (by decide)) (by decide) (by decide)
                    · (try simp only [rII, rIJ, rIP, rJJ, rJI, rJP, rPP, rPI, rPJ, g1, g2, g3, g4, g5, g6, g7, g8, Nat.reduceEqDiff, Nat.reduceAdd, false_and, and_false, true_and, and_true, reduceIte, nZ0, nZ1, eτ220_38.1, eτ220_38.2, eτ220_39.1, eτ220_39.2, eτ220_51.1, eτ220_51.2, eτ220_52.1, eτ220_52.2, eτ220_53.1, eτ220_53.2, sτ220_33.1, sτ220_33.2, sτ220_50.1, sτ220_50.2, fun a k => (jτ220 a k).1, fun a k => (jτ220 a k).2, pτ220]) <;> (first | omega | with_reducible assumption | (unfold rng; omega) | (unfold rng; (repeat' split) <;> omega) | grind)
                  · rename_i hc281
                    skip
                    unfold w_X16_emit_284
                    try simp only [forall_eq, rII, rIJ, rIP, rJJ, rJI, rJP, rPP, rPI, rPJ, g1, g2, g3, g4, g5, g6, g7, g8, Nat.reduceEqDiff, Nat.reduceAdd, false_and, and_false, true_and, and_true, reduceIte, nZ0, nZ1, eτ220_38.1, eτ220_38.2, eτ220_39.1, eτ220_39.2, eτ220_51.1, eτ220_51.2, eτ220_52.1, eτ220_52.2, eτ220_53.1, eτ220_53.2, sτ220_33.1, sτ220_33.2, sτ220_50.1, sτ220_50.2, fun a k => (jτ220 a k).1, fun a k => (jτ220 a k).2, pτ220]
                    unfold w_X16_emit_289
                    try simp only [forall_eq, rII, rIJ, rIP, rJJ, rJI, rJP, rPP, rPI, rPJ, g1, g2, g3, g4, g5, g6, g7, g8, Nat.reduceEqDiff, Nat.reduceAdd, false_and, and_false, true_and, and_true, reduceIte, nZ0, nZ1, eτ220_38.1, eτ220_38.2, eτ220_39.1, eτ220_39.2, eτ220_51.1, eτ220_51.2, eτ220_52.1, eτ220_52.2, eτ220_53.1, eτ220_53.2, sτ220_33.1, sτ220_33.2, sτ220_50.1, sτ220_50.2, fun a k => (jτ220 a k).1, fun a k => (jτ220 a k).2, pτ220]
                    refine ⟨by (first | omega | with_reducible assumption | (unfold rng; omega) | (unfold rng; (repeat' split) <;> omega) | grind), ?_⟩
                    try rw [if_neg (by decide)]
                    unfold w_X16_emit_304
                    try simp only [forall_eq, rII, rIJ, rIP, rJJ, rJI, rJP, rPP, rPI, rPJ, g1, g2, g3, g4, g5, g6, g7, g8, Nat.reduceEqDiff, Nat.reduceAdd, false_and, and_false, true_and, and_true, reduceIte, nZ0, nZ1, eτ220_38.1, eτ220_38.2, eτ220_39.1, eτ220_39.2, eτ220_51.1, eτ220_51.2, eτ220_52.1, eτ220_52.2, eτ220_53.1, eτ220_53.2, sτ220_33.1, sτ220_33.2, sτ220_50.1, sτ220_50.2, fun a k => (jτ220 a k).1, fun a k => (jτ220 a k).2, pτ220]
                    refine ⟨by (first | omega | with_reducible assumption | (unfold rng; omega) | (unfold rng; (repeat' split) <;> omega) | grind), ?_⟩
                    refine s_X16_isSingle g rτ220 (by first | exact hj | (rw [fτ220.2.2.2]; exact hj)) hja (by (try simp only [rII, rIJ, rIP, rJJ, rJI, rJP, rPP, rPI, rPJ, g1, g2, g3, g4, g5, g6, g7, g8, Nat.reduceEqDiff, Nat.reduceAdd, false_and, and_false, true_and, and_true, reduceIte, nZ0, nZ1, eτ220_38.1, eτ220_38.2, eτ220_39.1, eτ220_39.2, eτ220_51.1, eτ220_51.2, eτ220_52.1, eτ220_52.2, eτ220_53.1, eτ220_53.2, sτ220_33.1, sτ220_33.2, sτ220_50.1, sτ220_50.2, fun a k => (jτ220 a k).1, fun a k => (jτ220 a k).2, pτ220]) <;> (first | omega | with_reducible assumption | (unfold rng; omega) | (unfold rng; (repeat' split) <;> omega) | grind)) (fun r50 p10 => ?_)
                    try simp only [forall_eq, rII, rIJ, rIP, rJJ, rJI, rJP, rPP, rPI, rPJ, g1, g2, g3, g4, g5, g6, g7, g8, Nat.reduceEqDiff, Nat.reduceAdd, false_and, and_false, true_and, and_true, reduceIte, nZ0, nZ1, eτ220_38.1, eτ220_38.2, eτ220_39.1, eτ220_39.2, eτ220_51.1, eτ220_51.2, eτ220_52.1, eτ220_52.2, eτ220_53.1, eτ220_53.2, sτ220_33.1, sτ220_33.2, sτ220_50.1, sτ220_50.2, fun a k => (jτ220 a k).1, fun a k => (jτ220 a k).2, pτ220]
                    split
                    · rename_i hc314
                      skip
                      unfold w_X16_emit_321
                      try simp only [forall_eq, rII, rIJ, rIP, rJJ, rJI, rJP, rPP, rPI, rPJ, g1, g2, g3, g4, g5, g6, g7, g8, Nat.reduceEqDiff, Nat.reduceAdd, false_and, and_false, true_and, and_true, reduceIte, nZ0, nZ1, eτ220_38.1, eτ220_38.2, eτ220_39.1, eτ220_39.2, eτ220_51.1, eτ220_51.2, eτ220_52.1, eτ220_52.2, eτ220_53.1, eτ220_53.2, sτ220_33.1, sτ220_33.2, sτ220_50.1, sτ220_50.2, fun a k => (jτ220 a k).1, fun a k => (jτ220 a k).2, pτ220]
                      unfold w_X16_emit_322
                      try simp only [forall_eq, rII, rIJ, rIP, rJJ, rJI, rJP, rPP, rPI, rPJ, g1, g2, g3, g4, g5, g6, g7, g8, Nat.reduceEqDiff, Nat.reduceAdd, false_and, and_false, true_and, and_true, reduceIte, nZ0, nZ1, eτ220_38.1, eτ220_38.2, eτ220_39.1, eτ220_39.2, eτ220_51.1, eτ220_51.2, eτ220_52.1, eτ220_52.2, eτ220_53.1, eτ220_53.2, sτ220_33.1, sτ220_33.2, sτ220_50.1, sτ220_50.2, fun a k => (jτ220 a k).1, fun a k => (jτ220 a k).2, pτ220]
                      refine ⟨by (first | omega | with_reducible assumption | (unfold rng; omega) | (unfold rng; (repeat' split) <;> omega) | grind), ?_⟩
                      refine ⟨by (first | omega | with_reducible assumption | (unfold rng; omega) | (unfold rng; (repeat' split) <;> omega) | grind), ?_⟩
                      refine ih220 _ _ ?_ ?_ ?_ ?_
                      · refine Rg.aJ g ?_ (by simp only [rlT]; first | with_reducible assumption | omega | exact Int64.toInt_le _ | (rw [Int64.toInt_ofInt_of_le (by omega) (by omega)]; omega) | grind); exact rτ220
                      · refine Fr.aJ g ?_ (by decide); exact fτ220
                      · refine ⟨?_, ?_, ?_⟩ <;> first | assumption | omega | exact ThE.fr (K := [49]) (S := []) hth220 (Fr.aJ g Fr.rf (by decide)) (by decide) (by decide)
                      · (try simp only [rII, rIJ, rIP, rJJ, rJI, rJP, rPP, rPI, rPJ, g1, g2, g3, g4, g5, g6, g7, g8, Nat.reduceEqDiff, Nat.reduceAdd, false_and, and_false, true_and, and_true, reduceIte, nZ0, nZ1, eτ220_38.1, eτ220_38.2, eτ220_39.1, eτ220_39.2, eτ220_51.1, eτ220_51.2, eτ220_52.1, eτ220_52.2, eτ220_53.1, eτ220_53.2, sτ220_33.1, sτ220_33.2, sτ220_50.1, sτ220_50.2, fun a k => (jτ220 a k).1, fun a k => (jτ220 a k).2, pτ220]) <;> (first | omega | with_reducible assumption | (unfold rng; omega) | (unfold rng; (repeat' split) <;> omega) | grind)
                    · rename_i hc314
                      skip
                      unfold w_X16_emit_317
                      try simp only [forall_eq, rII, rIJ, rIP, rJJ, rJI, rJP, rPP, rPI, rPJ, g1, g2, g3, g4, g5, g6, g7, g8, Nat.reduceEqDiff, Nat.reduceAdd, false_and, and_false, true_and, and_true, reduceIte, nZ0, nZ1, eτ220_38.1, eτ220_38.2, eτ220_39.1, eτ220_39.2, eτ220_51.1, eτ220_51.2, eτ220_52.1, eτ220_52.2, eτ220_53.1, eτ220_53.2, sτ220_33.1, sτ220_33.2, sτ220_50.1, sτ220_50.2, fun a k => (jτ220 a k).1, fun a k => (jτ220 a k).2, pτ220]
                      unfold w_X16_emit_322
                      try simp only [forall_eq, rII, rIJ, rIP, rJJ, rJI, rJP, rPP, rPI, rPJ, g1, g2, g3, g4, g5, g6, g7, g8, Nat.reduceEqDiff, Nat.reduceAdd, false_and, and_false, true_and, and_true, reduceIte, nZ0, nZ1, eτ220_38.1, eτ220_38.2, eτ220_39.1, eτ220_39.2, eτ220_51.1, eτ220_51.2, eτ220_52.1, eτ220_52.2, eτ220_53.1, eτ220_53.2, sτ220_33.1, sτ220_33.2, sτ220_50.1, sτ220_50.2, fun a k => (jτ220 a k).1, fun a k => (jτ220 a k).2, pτ220]
                      refine ⟨by (first | omega | with_reducible assumption | (unfold rng; omega) | (unfold rng; (repeat' split) <;> omega) | grind), ?_⟩
                      refine ⟨by (first | omega | with_reducible assumption | (unfold rng; omega) | (unfold rng; (repeat' split) <;> omega) | grind), ?_⟩
                      refine ih220 _ _ ?_ ?_ ?_ ?_
                      · refine Rg.aJ g ?_ (by simp only [rlT]; first | with_reducible assumption | omega | exact Int64.toInt_le _ | (rw [Int64.toInt_ofInt_of_le (by omega) (by omega)]; omega) | grind); exact rτ220
                      · refine Fr.aJ g ?_ (by decide); exact fτ220
                      · refine ⟨?_, ?_, ?_⟩ <;> first | assumption | omega | exact ThE.fr (K := [49]) (S := []) hth220 (Fr.aJ g Fr.rf (by decide)) (by decide) (by decide)
                      · (try simp only [rII, rIJ, rIP, rJJ, rJI, rJP, rPP, rPI, rPJ, g1, g2, g3, g4, g5, g6, g7, g8, Nat.reduceEqDiff, Nat.reduceAdd, false_and, and_false, true_and, and_true, reduceIte, nZ0, nZ1, eτ220_38.1, eτ220_38.2, eτ220_39.1, eτ220_39.2, eτ220_51.1, eτ220_51.2, eτ220_52.1, eτ220_52.2, eτ220_53.1, eτ220_53.2, sτ220_33.1, sτ220_33.2, sτ220_50.1, sτ220_50.2, fun a k => (jτ220 a k).1, fun a k => (jτ220 a k).2, pτ220]) <;> (first | omega | with_reducible assumption | (unfold rng; omega) | (unfold rng; (repeat' split) <;> omega) | grind)
        refine ⟨_, L220 _ _ _ ?_ ?_ ?_ (Nat.lt_succ_self _)⟩
        · exact rτ11
        · exact fτ11
        · refine ⟨?_, ?_, ?_⟩ <;> first | assumption | omega | exact ThE.fr (K := [49]) (S := []) hth220 (Fr.aJ g Fr.rf (by decide)) (by decide) (by decide)
      · rename_i hc17
        skip
        unfold w_X16_emit_20
        try simp only [forall_eq, rII, rIJ, rIP, rJJ, rJI, rJP, rPP, rPI, rPJ, g1, g2, g3, g4, g5, g6, g7, g8, Nat.reduceEqDiff, Nat.reduceAdd, false_and, and_false, true_and, and_true, reduceIte, nZ0, nZ1, eτ11_38.1, eτ11_38.2, eτ11_39.1, eτ11_39.2, eτ11_51.1, eτ11_51.2, eτ11_52.1, eτ11_52.2, eτ11_53.1, eτ11_53.2, sτ11_33.1, sτ11_33.2, sτ11_50.1, sτ11_50.2, fun a k => (jτ11 a k).1, fun a k => (jτ11 a k).2, pτ11]
        refine ⟨by (first | omega | with_reducible assumption | (unfold rng; omega) | (unfold rng; (repeat' split) <;> omega) | grind), ?_⟩
        have q11 := rσ.1 51 (v10.toNat); simp only [rgT] at q11
        split
        · rename_i hc28
          skip
          unfold w_X16_emit_34
          try simp only [forall_eq, rII, rIJ, rIP, rJJ, rJI, rJP, rPP, rPI, rPJ, g1, g2, g3, g4, g5, g6, g7, g8, Nat.reduceEqDiff, Nat.reduceAdd, false_and, and_false, true_and, and_true, reduceIte, nZ0, nZ1, eτ11_38.1, eτ11_38.2, eτ11_39.1, eτ11_39.2, eτ11_51.1, eτ11_51.2, eτ11_52.1, eτ11_52.2, eτ11_53.1, eτ11_53.2, sτ11_33.1, sτ11_33.2, sτ11_50.1, sτ11_50.2, fun a k => (jτ11 a k).1, fun a k => (jτ11 a k).2, pτ11]
          refine ⟨by (first | omega | with_reducible assumption | (unfold rng; omega) | (unfold rng; (repeat' split) <;> omega) | grind), ?_⟩
          have q12 := rσ.1 52 (v10.toNat); simp only [rgT] at q12
          refine ⟨by (first | omega | with_reducible assumption | (unfold rng; omega) | (unfold rng; (repeat' split) <;> omega) | grind), ?_⟩
          refine ⟨by (first | omega | with_reducible assumption | (unfold rng; omega) | (unfold rng; (repeat' split) <;> omega) | grind), ?_⟩
          refine ⟨by (first | omega | with_reducible assumption | (unfold rng; omega) | (unfold rng; (repeat' split) <;> omega) | grind), ?_⟩
          have q13 := rσ.1 38 ((gI σ (ra 52) v10.toNat).toNat); simp only [rgT] at q13
          refine s_X16_isKeyed g rτ11 (by first | exact hj | (rw [fτ11.2.2.2]; exact hj)) hja (by (try simp only [rII, rIJ, rIP, rJJ, rJI, rJP, rPP, rPI, rPJ, g1, g2, g3, g4, g5, g6, g7, g8, Nat.reduceEqDiff, Nat.reduceAdd, false_and, and_false, true_and, and_true, reduceIte, nZ0, nZ1, eτ11_38.1, eτ11_38.2, eτ11_39.1, eτ11_39.2, eτ11_51.1, eτ11_51.2, eτ11_52.1, eτ11_52.2, eτ11_53.1, eτ11_53.2, sτ11_33.1, sτ11_33.2, sτ11_50.1, sτ11_50.2, fun a k => (jτ11 a k).1, fun a k => (jτ11 a k).2, pτ11]) <;> (first | omega | with_reducible assumption | (unfold rng; omega) | (unfold rng; (repeat' split) <;> omega) | grind)) (fun r54 p14 => ?_)
          try simp only [forall_eq, rII, rIJ, rIP, rJJ, rJI, rJP, rPP, rPI, rPJ, g1, g2, g3, g4, g5, g6, g7, g8, Nat.reduceEqDiff, Nat.reduceAdd, false_and, and_false, true_and, and_true, reduceIte, nZ0, nZ1, eτ11_38.1, eτ11_38.2, eτ11_39.1, eτ11_39.2, eτ11_51.1, eτ11_51.2, eτ11_52.1, eτ11_52.2, eτ11_53.1, eτ11_53.2, sτ11_33.1, sτ11_33.2, sτ11_50.1, sτ11_50.2, fun a k => (jτ11 a k).1, fun a k => (jτ11 a k).2, pτ11]
          split
          · rename_i hc71
            skip
            unfold w_X16_emit_132
            try simp only [forall_eq, rII, rIJ, rIP, rJJ, rJI, rJP, rPP, rPI, rPJ, g1, g2, g3, g4, g5, g6, g7, g8, Nat.reduceEqDiff, Nat.reduceAdd, false_and, and_false, true_and, and_true, reduceIte, nZ0, nZ1, eτ11_38.1, eτ11_38.2, eτ11_39.1, eτ11_39.2, eτ11_51.1, eτ11_51.2, eτ11_52.1, eτ11_52.2, eτ11_53.1, eτ11_53.2, sτ11_33.1, sτ11_33.2, sτ11_50.1, sτ11_50.2, fun a k => (jτ11 a k).1, fun a k => (jτ11 a k).2, pτ11]
            refine s_X16_isSingle g rτ11 (by first | exact hj | (rw [fτ11.2.2.2]; exact hj)) hja (by (try simp only [rII, rIJ, rIP, rJJ, rJI, rJP, rPP, rPI, rPJ, g1, g2, g3, g4, g5, g6, g7, g8, Nat.reduceEqDiff, Nat.reduceAdd, false_and, and_false, true_and, and_true, reduceIte, nZ0, nZ1, eτ11_38.1, eτ11_38.2, eτ11_39.1, eτ11_39.2, eτ11_51.1, eτ11_51.2, eτ11_52.1, eτ11_52.2, eτ11_53.1, eτ11_53.2, sτ11_33.1, sτ11_33.2, sτ11_50.1, sτ11_50.2, fun a k => (jτ11 a k).1, fun a k => (jτ11 a k).2, pτ11]) <;> (first | omega | with_reducible assumption | (unfold rng; omega) | (unfold rng; (repeat' split) <;> omega) | grind)) (fun r56 p15 => ?_)
            try simp only [forall_eq, rII, rIJ, rIP, rJJ, rJI, rJP, rPP, rPI, rPJ, g1, g2, g3, g4, g5, g6, g7, g8, Nat.reduceEqDiff, Nat.reduceAdd, false_and, and_false, true_and, and_true, reduceIte, nZ0, nZ1, eτ11_38.1, eτ11_38.2, eτ11_39.1, eτ11_39.2, eτ11_51.1, eτ11_51.2, eτ11_52.1, eτ11_52.2, eτ11_53.1, eτ11_53.2, sτ11_33.1, sτ11_33.2, sτ11_50.1, sτ11_50.2, fun a k => (jτ11 a k).1, fun a k => (jτ11 a k).2, pτ11]
            split
            · rename_i hc138
              skip
              unfold w_X16_emit_191
              try simp only [forall_eq, rII, rIJ, rIP, rJJ, rJI, rJP, rPP, rPI, rPJ, g1, g2, g3, g4, g5, g6, g7, g8, Nat.reduceEqDiff, Nat.reduceAdd, false_and, and_false, true_and, and_true, reduceIte, nZ0, nZ1, eτ11_38.1, eτ11_38.2, eτ11_39.1, eτ11_39.2, eτ11_51.1, eτ11_51.2, eτ11_52.1, eτ11_52.2, eτ11_53.1, eτ11_53.2, sτ11_33.1, sτ11_33.2, sτ11_50.1, sτ11_50.2, fun a k => (jτ11 a k).1, fun a k => (jτ11 a k).2, pτ11]
              try rw [if_neg (by decide)]
              unfold w_X16_emit_196
              try simp only [forall_eq, rII, rIJ, rIP, rJJ, rJI, rJP, rPP, rPI, rPJ, g1, g2, g3, g4, g5, g6, g7, g8, Nat.reduceEqDiff, Nat.reduceAdd, false_and, and_false, true_and, and_true, reduceIte, nZ0, nZ1, eτ11_38.1, eτ11_38.2, eτ11_39.1, eτ11_39.2, eτ11_51.1, eτ11_51.2, eτ11_52.1, eτ11_52.2, eτ11_53.1, eτ11_53.2, sτ11_33.1, sτ11_33.2, sτ11_50.1, sτ11_50.2, fun a k => (jτ11 a k).1, fun a k => (jτ11 a k).2, pτ11]
              refine s_X16_box (b6 := b4) (n6 := n4) g rτ11 ha4 hr4 (by assumption) (by (try simp only [rII, rIJ, rIP, rJJ, rJI, rJP, rPP, rPI, rPJ, g1, g2, g3, g4, g5, g6, g7, g8, Nat.reduceEqDiff, Nat.reduceAdd, false_and, and_false, true_and, and_true, reduceIte, nZ0, nZ1, eτ11_38.1, eτ11_38.2, eτ11_39.1, eτ11_39.2, eτ11_51.1, eτ11_51.2, eτ11_52.1, eτ11_52.2, eτ11_53.1, eτ11_53.2, sτ11_33.1, sτ11_33.2, sτ11_50.1, sτ11_50.2, fun a k => (jτ11 a k).1, fun a k => (jτ11 a k).2, pτ11]) <;> (first | omega | with_reducible assumption | (unfold rng; omega) | (unfold rng; (repeat' split) <;> omega) | grind)) (by (try simp only [rII, rIJ, rIP, rJJ, rJI, rJP, rPP, rPI, rPJ, g1, g2, g3, g4, g5, g6, g7, g8, Nat.reduceEqDiff, Nat.reduceAdd, false_and, and_false, true_and, and_true, reduceIte, nZ0, nZ1, eτ11_38.1, eτ11_38.2, eτ11_39.1, eτ11_39.2, eτ11_51.1, eτ11_51.2, eτ11_52.1, eτ11_52.2, eτ11_53.1, eτ11_53.2, sτ11_33.1, sτ11_33.2, sτ11_50.1, sτ11_50.2, fun a k => (jτ11 a k).1, fun a k => (jτ11 a k).2, pτ11]) <;> (first | omega | with_reducible assumption | (unfold rng; omega) | (unfold rng; (repeat' split) <;> omega) | grind)) (by (try simp only [rII, rIJ, rIP, rJJ, rJI, rJP, rPP, rPI, rPJ, g1, g2, g3, g4, g5, g6, g7, g8, Nat.reduceEqDiff, Nat.reduceAdd, false_and, and_false, true_and, and_true, reduceIte, nZ0, nZ1, eτ11_38.1, eτ11_38.2, eτ11_39.1, eτ11_39.2, eτ11_51.1, eτ11_51.2, eτ11_52.1, eτ11_52.2, eτ11_53.1, eτ11_53.2, sτ11_33.1, sτ11_33.2, sτ11_50.1, sτ11_50.2, fun a k => (jτ11 a k).1, fun a k => (jτ11 a k).2, pτ11]) <;> (first | omega | with_reducible assumption | (unfold rng; omega) | (unfold rng; (repeat' split) <;> omega) | grind)) (by (try simp only [rII, rIJ, rIP, rJJ, rJI, rJP, rPP, rPI, rPJ, g1, g2, g3, g4, g5, g6, g7, g8, Nat.reduceEqDiff, Nat.reduceAdd, false_and, and_false, true_and, and_true, reduceIte, nZ0, nZ1, eτ11_38.1, eτ11_38.2, eτ11_39.1, eτ11_39.2, eτ11_51.1, eτ11_51.2, eτ11_52.1, eτ11_52.2, eτ11_53.1, eτ11_53.2, sτ11_33.1, sτ11_33.2, sτ11_50.1, sτ11_50.2, fun a k => (jτ11 a k).1, fun a k => (jτ11 a k).2, pτ11]) <;> (first | omega | with_reducible assumption | (unfold rng; omega) | (unfold rng; (repeat' split) <;> omega) | grind)) (by (try simp only [rII, rIJ, rIP, rJJ, rJI, rJP, rPP, rPI, rPJ, g1, g2, g3, g4, g5, g6, g7, g8, Nat.reduceEqDiff, Nat.reduceAdd, false_and, and_false, true_and, and_true, reduceIte, nZ0, nZ1, eτ11_38.1, eτ11_38.2, eτ11_39.1, eτ11_39.2, eτ11_51.1, eτ11_51.2, eτ11_52.1, eτ11_52.2, eτ11_53.1, eτ11_53.2, sτ11_33.1, sτ11_33.2, sτ11_50.1, sτ11_50.2, fun a k => (jτ11 a k).1, fun a k => (jτ11 a k).2, pτ11]) <;> (first | omega | with_reducible assumption | (unfold rng; omega) | (unfold rng; (repeat' split) <;> omega) | grind)) (by (try simp only [rII, rIJ, rIP, rJJ, rJI, rJP, rPP, rPI, rPJ, g1, g2, g3, g4, g5, g6, g7, g8, Nat.reduceEqDiff, Nat.reduceAdd, false_and, and_false, true_and, and_true, reduceIte, nZ0, nZ1, eτ11_38.1, eτ11_38.2, eτ11_39.1, eτ11_39.2, eτ11_51.1, eτ11_51.2, eτ11_52.1, eτ11_52.2, eτ11_53.1, eτ11_53.2, sτ11_33.1, sτ11_33.2, sτ11_50.1, sτ11_50.2, fun a k => (jτ11 a k).1, fun a k => (jτ11 a k).2, pτ11]) <;> (first | omega | with_reducible assumption | (unfold rng; omega) | (unfold rng; (repeat' split) <;> omega) | grind)) (by (try simp only [rII, rIJ, rIP, rJJ, rJI, rJP, rPP, rPI, rPJ, g1, g2, g3, g4, g5, g6, g7, g8, Nat.reduceEqDiff, Nat.reduceAdd, false_and, and_false, true_and, and_true, reduceIte, nZ0, nZ1, eτ11_38.1, eτ11_38.2, eτ11_39.1, eτ11_39.2, eτ11_51.1, eτ11_51.2, eτ11_52.1, eτ11_52.2, eτ11_53.1, eτ11_53.2, sτ11_33.1, sτ11_33.2, sτ11_50.1, sτ11_50.2, fun a k => (jτ11 a k).1, fun a k => (jτ11 a k).2, pτ11]) <;> (first | omega | with_reducible assumption | (unfold rng; omega) | (unfold rng; (repeat' split) <;> omega) | grind)) (fun σ57 _ rσ57 fc p16 => ?_) (fun σx E rx fx px => hX _ _ rx (Fr.tr fτ11 (Fr.mor (fx) (by decide) (by decide))) px)
              have fσ57 : Fr ra jx rm [46, 47, 48, 49, 60, 61, 62, 63, 64, 65] [66, 67] σ σ57 := Fr.tr fτ11 (Fr.mor (fc) (by decide) (by decide))
              have eσ57_38 := fσ57.1 38 (by decide)
              have eσ57_39 := fσ57.1 39 (by decide)
              have eσ57_51 := fσ57.1 51 (by decide)
              have eσ57_52 := fσ57.1 52 (by decide)
              have eσ57_53 := fσ57.1 53 (by decide)
              have sσ57_33 := fσ57.2.1 33 (by decide)
              have sσ57_50 := fσ57.2.1 50 (by decide)
              have jσ57 := fσ57.2.2.1
              have pσ57 := fσ57.2.2.2
              try simp only [forall_eq, rII, rIJ, rIP, rJJ, rJI, rJP, rPP, rPI, rPJ, g1, g2, g3, g4, g5, g6, g7, g8, Nat.reduceEqDiff, Nat.reduceAdd, false_and, and_false, true_and, and_true, reduceIte, nZ0, nZ1, eσ57_38.1, eσ57_38.2, eσ57_39.1, eσ57_39.2, eσ57_51.1, eσ57_51.2, eσ57_52.1, eσ57_52.2, eσ57_53.1, eσ57_53.2, sσ57_33.1, sσ57_33.2, sσ57_50.1, sσ57_50.2, fun a k => (jσ57 a k).1, fun a k => (jσ57 a k).2, pσ57]
              unfold w_X16_emit_211
              try simp only [forall_eq, rII, rIJ, rIP, rJJ, rJI, rJP, rPP, rPI, rPJ, g1, g2, g3, g4, g5, g6, g7, g8, Nat.reduceEqDiff, Nat.reduceAdd, false_and, and_false, true_and, and_true, reduceIte, nZ0, nZ1, eσ57_38.1, eσ57_38.2, eσ57_39.1, eσ57_39.2, eσ57_51.1, eσ57_51.2, eσ57_52.1, eσ57_52.2, eσ57_53.1, eσ57_53.2, sσ57_33.1, sσ57_33.2, sσ57_50.1, sσ57_50.2, fun a k => (jσ57 a k).1, fun a k => (jσ57 a k).2, pσ57]
              refine ⟨by (first | omega | with_reducible assumption | (unfold rng; omega) | (unfold rng; (repeat' split) <;> omega) | grind), ?_⟩
              refine ih11 _ _ ?_ ?_ ?_ ?_
              · exact rσ57
              · exact fσ57
              · refine ⟨by assumption, ?_, ?_⟩ <;> (first | omega | with_reducible assumption | (unfold rng; omega) | (unfold rng; (repeat' split) <;> omega) | grind)
              · (try simp only [rII, rIJ, rIP, rJJ, rJI, rJP, rPP, rPI, rPJ, g1, g2, g3, g4, g5, g6, g7, g8, Nat.reduceEqDiff, Nat.reduceAdd, false_and, and_false, true_and, and_true, reduceIte, nZ0, nZ1, eσ57_38.1, eσ57_38.2, eσ57_39.1, eσ57_39.2, eσ57_51.1, eσ57_51.2, eσ57_52.1, eσ57_52.2, eσ57_53.1, eσ57_53.2, sσ57_33.1, sσ57_33.2, sσ57_50.1, sσ57_50.2, fun a k => (jσ57 a k).1, fun a k => (jσ57 a k).2, pσ57]) <;> (first | omega | with_reducible assumption | (unfold rng; omega) | (unfold rng; (repeat' split) <;> omega) | grind)
            · rename_i hc138
              skip
              unfold w_X16_emit_141
              try simp only [forall_eq, rII, rIJ, rIP, rJJ, rJI, rJP, rPP, rPI, rPJ, g1, g2, g3, g4, g5, g6, g7, g8, Nat.reduceEqDiff, Nat.reduceAdd, false_and, and_false, true_and, and_true, reduceIte, nZ0, nZ1, eτ11_38.1, eτ11_38.2, eτ11_39.1, eτ11_39.2, eτ11_51.1, eτ11_51.2, eτ11_52.1, eτ11_52.2, eτ11_53.1, eτ11_53.2, sτ11_33.1, sτ11_33.2, sτ11_50.1, sτ11_50.2, fun a k => (jτ11 a k).1, fun a k => (jτ11 a k).2, pτ11]
              refine ⟨by (first | omega | with_reducible assumption | (unfold rng; omega) | (unfold rng; (repeat' split) <;> omega) | grind), ?_⟩
              have q17 := rσ.1 38 (v1.toNat); simp only [rgT] at q17
              refine s_X16_isSingle g rτ11 (by first | exact hj | (rw [fτ11.2.2.2]; exact hj)) hja (by (try simp only [rII, rIJ, rIP, rJJ, rJI, rJP, rPP, rPI, rPJ, g1, g2, g3, g4, g5, g6, g7, g8, Nat.reduceEqDiff, Nat.reduceAdd, false_and, and_false, true_and, and_true, reduceIte, nZ0, nZ1, eτ11_38.1, eτ11_38.2, eτ11_39.1, eτ11_39.2, eτ11_51.1, eτ11_51.2, eτ11_52.1, eτ11_52.2, eτ11_53.1, eτ11_53.2, sτ11_33.1, sτ11_33.2, sτ11_50.1, sτ11_50.2, fun a k => (jτ11 a k).1, fun a k => (jτ11 a k).2, pτ11]) <;> (first | omega | with_reducible assumption | (unfold rng; omega) | (unfold rng; (repeat' split) <;> omega) | grind)) (fun r59 p18 => ?_)
              try simp only [forall_eq, rII, rIJ, rIP, rJJ, rJI, rJP, rPP, rPI, rPJ, g1, g2, g3, g4, g5, g6, g7, g8, Nat.reduceEqDiff, Nat.reduceAdd, false_and, and_false, true_and, and_true, reduceIte, nZ0, nZ1, eτ11_38.1, eτ11_38.2, eτ11_39.1, eτ11_39.2, eτ11_51.1, eτ11_51.2, eτ11_52.1, eτ11_52.2, eτ11_53.1, eτ11_53.2, sτ11_33.1, sτ11_33.2, sτ11_50.1, sτ11_50.2, fun a k => (jτ11 a k).1, fun a k => (jτ11 a k).2, pτ11]
              split
              · rename_i hc151
                skip
                unfold w_X16_emit_191
                try simp only [forall_eq, rII, rIJ, rIP, rJJ, rJI, rJP, rPP, rPI, rPJ, g1, g2, g3, g4, g5, g6, g7, g8, Nat.reduceEqDiff, Nat.reduceAdd, false_and, and_false, true_and, and_true, reduceIte, nZ0, nZ1, eτ11_38.1, eτ11_38.2, eτ11_39.1, eτ11_39.2, eτ11_51.1, eτ11_51.2, eτ11_52.1, eτ11_52.2, eτ11_53.1, eτ11_53.2, sτ11_33.1, sτ11_33.2, sτ11_50.1, sτ11_50.2, fun a k => (jτ11 a k).1, fun a k => (jτ11 a k).2, pτ11]
                try rw [if_neg (by decide)]
                unfold w_X16_emit_196
                try simp only [forall_eq, rII, rIJ, rIP, rJJ, rJI, rJP, rPP, rPI, rPJ, g1, g2, g3, g4, g5, g6, g7, g8, Nat.reduceEqDiff, Nat.reduceAdd, false_and, and_false, true_and, and_true, reduceIte, nZ0, nZ1, eτ11_38.1, eτ11_38.2, eτ11_39.1, eτ11_39.2, eτ11_51.1, eτ11_51.2, eτ11_52.1, eτ11_52.2, eτ11_53.1, eτ11_53.2, sτ11_33.1, sτ11_33.2, sτ11_50.1, sτ11_50.2, fun a k => (jτ11 a k).1, fun a k => (jτ11 a k).2, pτ11]
                refine s_X16_box (b6 := b4) (n6 := n4) g rτ11 ha4 hr4 (by assumption) (by (try simp only [rII, rIJ, rIP, rJJ, rJI, rJP, rPP, rPI, rPJ, g1, g2, g3, g4, g5, g6, g7, g8, Nat.reduceEqDiff, Nat.reduceAdd, false_and, and_false, true_and, and_true, reduceIte, nZ0, nZ1, eτ11_38.1, eτ11_38.2, eτ11_39.1, eτ11_39.2, eτ11_51.1, eτ11_51.2, eτ11_52.1, eτ11_52.2, eτ11_53.1, eτ11_53.2, sτ11_33.1, sτ11_33.2, sτ11_50.1, sτ11_50.2, fun a k => (jτ11 a k).1, fun a k => (jτ11 a k).2, pτ11]) <;> (first | omega | with_reducible assumption | (unfold rng; omega) | (unfold rng; (repeat' split) <;> omega) | grind)) (by (try simp only [rII, rIJ, rIP, rJJ, rJI, rJP, rPP, rPI, rPJ, g1, g2, g3, g4, g5, g6, g7, g8, Nat.reduceEqDiff, Nat.reduceAdd, false_and, and_false, true_and, and_true, reduceIte, nZ0, nZ1, eτ11_38.1, eτ11_38.2, eτ11_39.1, eτ11_39.2, eτ11_51.1, eτ11_51.2, eτ11_52.1, eτ11_52.2, eτ11_53.1, eτ11_53.2, sτ11_33.1, sτ11_33.2, sτ11_50.1, sτ11_50.2, fun a k => (jτ11 a k).1, fun a k => (jτ11 a k).2, pτ11]) <;> (first | omega | with_reducible assumption | (unfold rng; omega) | (unfold rng; (repeat' split) <;> omega) | grind)) (by (try simp only [rII, rIJ, rIP, rJJ, rJI, rJP, rPP, rPI, rPJ, g1, g2, g3, g4, g5, g6, g7, g8, Nat.reduceEqDiff, Nat.reduceAdd, false_and, and_false, true_and, and_true, reduceIte, nZ0, nZ1, eτ11_38.1, eτ11_38.2, eτ11_39.1, eτ11_39.2, eτ11_51.1, eτ11_51.2, eτ11_52.1, eτ11_52.2, eτ11_53.1, eτ11_53.2, sτ11_33.1, sτ11_33.2, sτ11_50.1, sτ11_50.2, fun a k => (jτ11 a k).1, fun a k => (jτ11 a k).2, pτ11]) <;> (first | omega | with_reducible assumption | (unfold rng; omega) | (unfold rng; (repeat' split) <;> omega) | grind)) (by (try simp only [rII, rIJ, rIP, rJJ, rJI, rJP, rPP, rPI, rPJ, g1, g2, g3, g4, g5, g6, g7, g8, Nat.reduceEqDiff, Nat.reduceAdd, false_and, and_false, true_and, and_true, reduceIte, nZ0, nZ1, eτ11_38.1, eτ11_38.2, eτ11_39.1, eτ11_39.2, eτ11_51.1, eτ11_51.2, eτ11_52.1, eτ11_52.2, eτ11_53.1, eτ11_53.2, sτ11_33.1, sτ11_33.2, sτ11_50.1, sτ11_50.2, fun a k => (jτ11 a k).1, fun a k => (jτ11 a k).2, pτ11]) <;> (first | omega | with_reducible assumption | (unfold rng; omega) | (unfold rng; (repeat' split) <;> omega) | grind)) (by (try simp only [rII, rIJ, rIP, rJJ, rJI, rJP, rPP, rPI, rPJ, g1, g2, g3, g4, g5, g6, g7, g8, Nat.reduceEqDiff, Nat.reduceAdd, false_and, and_false, true_and, and_true, reduceIte, nZ0, nZ1, eτ11_38.1, eτ11_38.2, eτ11_39.1, eτ11_39.2, eτ11_51.1, eτ11_51.2, eτ11_52.1, eτ11_52.2, eτ11_53.1, eτ11_53.2, sτ11_33.1, sτ11_33.2, sτ11_50.1, sτ11_50.2, fun a k => (jτ11 a k).1, fun a k => (jτ11 a k).2, pτ11]) <;> (first | omega | with_reducible assumption | (unfold rng; omega) | (unfold rng; (repeat' split) <;> omega) | grind)) (by (try simp only [rII, rIJ, rIP, rJJ, rJI, rJP, rPP, rPI, rPJ, g1, g2, g3, g4, g5, g6, g7, g8, Nat.reduceEqDiff, Nat.reduceAdd, false_and, and_false, true_and, and_true, reduceIte, nZ0, nZ1, eτ11_38.1, eτ11_38.2, eτ11_39.1, eτ11_39.2, eτ11_51.1, eτ11_51.2, eτ11_52.1, eτ11_52.2, eτ11_53.1, eτ11_53.2, sτ11_33.1, sτ11_33.2, sτ11_50.1, sτ11_50.2, fun a k => (jτ11 a k).1, fun a k => (jτ11 a k).2, pτ11]) <;> (first | omega | with_reducible assumption | (unfold rng; omega) | (unfold rng; (repeat' split) <;> omega) | grind)) (by (try simp only [rII, rIJ, rIP, rJJ, rJI, rJP, rPP, rPI, rPJ, g1, g2, g3, g4, g5, g6, g7, g8, Nat.reduceEqDiff, Nat.reduceAdd, false_and, and_false, true_and, and_true, reduceIte, nZ0, nZ1, eτ11_38.1, eτ11_38.2, eτ11_39.1, eτ11_39.2, eτ11_51.1, eτ11_51.2, eτ11_52.1, eτ11_52.2, eτ11_53.1, eτ11_53.2, sτ11_33.1, sτ11_33.2, sτ11_50.1, sτ11_50.2, fun a k => (jτ11 a k).1, fun a k => (jτ11 a k).2, pτ11]) <;> (first | omega | with_reducible assumption | (unfold rng; omega) | (unfold rng; (repeat' split) <;> omega) | grind)) (fun σ60 _ rσ60 fc p19 => ?_) (fun σx E rx fx px => hX _ _ rx (Fr.tr fτ11 (Fr.mor (fx) (by decide) (by decide))) px)
                have fσ60 : Fr ra jx rm [46, 47, 48, 49, 60, 61, 62, 63, 64, 65] [66, 67] σ σ60 := Fr.tr fτ11 (Fr.mor (fc) (by decide) (by decide))
                have eσ60_38 := fσ60.1 38 (by decide)
                have eσ60_39 := fσ60.1 39 (by decide)
                have eσ60_51 := fσ60.1 51 (by decide)
                have eσ60_52 := fσ60.1 52 (by decide)
                have eσ60_53 := fσ60.1 53 (by decide)
                have sσ60_33 := fσ60.2.1 33 (by decide)
                have sσ60_50 := fσ60.2.1 50 (by decide)
                have jσ60 := fσ60.2.2.1
                have pσ60 := fσ60.2.2.2
                try simp only [forall_eq, rII, rIJ, rIP, rJJ, rJI, rJP, rPP, rPI, rPJ, g1, g2, g3, g4, g5, g6, g7, g8, Nat.reduceEqDiff, Nat.reduceAdd, false_and, and_false, true_and, and_true, reduceIte, nZ0, nZ1, eσ60_38.1, eσ60_38.2, eσ60_39.1, eσ60_39.2, eσ60_51.1, eσ60_51.2, eσ60_52.1, eσ60_52.2, eσ60_53.1, eσ60_53.2, sσ60_33.1, sσ60_33.2, sσ60_50.1, sσ60_50.2, fun a k => (jσ60 a k).1, fun a k => (jσ60 a k).2, pσ60]
                unfold w_X16_emit_211
                try simp only [forall_eq, rII, rIJ, rIP, rJJ, rJI, rJP, rPP, rPI, rPJ, g1, g2, g3, g4, g5, g6, g7, g8, Nat.reduceEqDiff, Nat.reduceAdd, false_and, and_false, true_and, and_true, reduceIte, nZ0, nZ1, eσ60_38.1, eσ60_38.2, eσ60_39.1, eσ60_39.2, eσ60_51.1, eσ60_51.2, eσ60_52.1, eσ60_52.2, eσ60_53.1, eσ60_53.2, sσ60_33.1, sσ60_33.2, sσ60_50.1, sσ60_50.2, fun a k => (jσ60 a k).1, fun a k => (jσ60 a k).2, pσ60]
                refine ⟨by (first | omega | with_reducible assumption | (unfold rng; omega) | (unfold rng; (repeat' split) <;> omega) | grind), ?_⟩
                refine ih11 _ _ ?_ ?_ ?_ ?_
                · exact rσ60
                · exact fσ60
                · refine ⟨by assumption, ?_, ?_⟩ <;> (first | omega | with_reducible assumption | (unfold rng; omega) | (unfold rng; (repeat' split) <;> omega) | grind)
                · (try simp only [rII, rIJ, rIP, rJJ, rJI, rJP, rPP, rPI, rPJ, g1, g2, g3, g4, g5, g6, g7, g8, Nat.reduceEqDiff, Nat.reduceAdd, false_and, and_false, true_and, and_true, reduceIte, nZ0, nZ1, eσ60_38.1, eσ60_38.2, eσ60_39.1, eσ60_39.2, eσ60_51.1, eσ60_51.2, eσ60_52.1, eσ60_52.2, eσ60_53.1, eσ60_53.2, sσ60_33.1, sσ60_33.2, sσ60_50.1, sσ60_50.2, fun a k => (jσ60 a k).1, fun a k => (jσ60 a k).2, pσ60]) <;> (first | omega | with_reducible assumption | (unfold rng; omega) | (unfold rng; (repeat' split) <;> omega) | grind)
              · rename_i hc151
                skip
                unfold w_X16_emit_154
                try simp only [forall_eq, rII, rIJ, rIP, rJJ, rJI, rJP, rPP, rPI, rPJ, g1, g2, g3, g4, g5, g6, g7, g8, Nat.reduceEqDiff, Nat.reduceAdd, false_and, and_false, true_and, and_true, reduceIte, nZ0, nZ1, eτ11_38.1, eτ11_38.2, eτ11_39.1, eτ11_39.2, eτ11_51.1, eτ11_51.2, eτ11_52.1, eτ11_52.2, eτ11_53.1, eτ11_53.2, sτ11_33.1, sτ11_33.2, sτ11_50.1, sτ11_50.2, fun a k => (jτ11 a k).1, fun a k => (jτ11 a k).2, pτ11]
                refine ⟨by (first | omega | with_reducible assumption | (unfold rng; omega) | (unfold rng; (repeat' split) <;> omega) | grind), ?_⟩
                refine ⟨by (first | omega | with_reducible assumption | (unfold rng; omega) | (unfold rng; (repeat' split) <;> omega) | grind), ?_⟩
                have q20 := rσ.1 53 (v10.toNat); simp only [rgT] at q20
                refine ⟨by (first | omega | with_reducible assumption | (unfold rng; omega) | (unfold rng; (repeat' split) <;> omega) | grind), ?_⟩
                refine ⟨by (first | omega | with_reducible assumption | (unfold rng; omega) | (unfold rng; (repeat' split) <;> omega) | grind), ?_⟩
                have q21 := rσ.2.1 33; simp only [rgS] at q21
                refine ⟨by (first | omega | with_reducible assumption | (unfold rng; omega) | (unfold rng; (repeat' split) <;> omega) | grind), ?_⟩
                have q22 := rσ.1 39 ((gI σ (ra 52) v10.toNat).toNat); simp only [rgT] at q22
                split
                · rename_i hc181
                  skip
                  unfold w_X16_emit_188
                  try simp only [forall_eq, rII, rIJ, rIP, rJJ, rJI, rJP, rPP, rPI, rPJ, g1, g2, g3, g4, g5, g6, g7, g8, Nat.reduceEqDiff, Nat.reduceAdd, false_and, and_false, true_and, and_true, reduceIte, nZ0, nZ1, eτ11_38.1, eτ11_38.2, eτ11_39.1, eτ11_39.2, eτ11_51.1, eτ11_51.2, eτ11_52.1, eτ11_52.2, eτ11_53.1, eτ11_53.2, sτ11_33.1, sτ11_33.2, sτ11_50.1, sτ11_50.2, fun a k => (jτ11 a k).1, fun a k => (jτ11 a k).2, pτ11]
                  unfold w_X16_emit_189
                  try simp only [forall_eq, rII, rIJ, rIP, rJJ, rJI, rJP, rPP, rPI, rPJ, g1, g2, g3, g4, g5, g6, g7, g8, Nat.reduceEqDiff, Nat.reduceAdd, false_and, and_false, true_and, and_true, reduceIte, nZ0, nZ1, eτ11_38.1, eτ11_38.2, eτ11_39.1, eτ11_39.2, eτ11_51.1, eτ11_51.2, eτ11_52.1, eτ11_52.2, eτ11_53.1, eτ11_53.2, sτ11_33.1, sτ11_33.2, sτ11_50.1, sτ11_50.2, fun a k => (jτ11 a k).1, fun a k => (jτ11 a k).2, pτ11]
                  unfold w_X16_emit_191
                  try simp only [forall_eq, rII, rIJ, rIP, rJJ, rJI, rJP, rPP, rPI, rPJ, g1, g2, g3, g4, g5, g6, g7, g8, Nat.reduceEqDiff, Nat.reduceAdd, false_and, and_false, true_and, and_true, reduceIte, nZ0, nZ1, eτ11_38.1, eτ11_38.2, eτ11_39.1, eτ11_39.2, eτ11_51.1, eτ11_51.2, eτ11_52.1, eτ11_52.2, eτ11_53.1, eτ11_53.2, sτ11_33.1, sτ11_33.2, sτ11_50.1, sτ11_50.2, fun a k => (jτ11 a k).1, fun a k => (jτ11 a k).2, pτ11]
                  try rw [if_pos (by decide)]
                  unfold w_X16_emit_211
                  try simp only [forall_eq, rII, rIJ, rIP, rJJ, rJI, rJP, rPP, rPI, rPJ, g1, g2, g3, g4, g5, g6, g7, g8, Nat.reduceEqDiff, Nat.reduceAdd, false_and, and_false, true_and, and_true, reduceIte, nZ0, nZ1, eτ11_38.1, eτ11_38.2, eτ11_39.1, eτ11_39.2, eτ11_51.1, eτ11_51.2, eτ11_52.1, eτ11_52.2, eτ11_53.1, eτ11_53.2, sτ11_33.1, sτ11_33.2, sτ11_50.1, sτ11_50.2, fun a k => (jτ11 a k).1, fun a k => (jτ11 a k).2, pτ11]
                  refine ⟨by (first | omega | with_reducible assumption | (unfold rng; omega) | (unfold rng; (repeat' split) <;> omega) | grind), ?_⟩
                  refine ih11 _ _ ?_ ?_ ?_ ?_
                  · exact rτ11
                  · exact fτ11
                  · refine ⟨by assumption, ?_, ?_⟩ <;> (first | omega | with_reducible assumption | (unfold rng; omega) | (unfold rng; (repeat' split) <;> omega) | grind)
                  · (try simp only [rII, rIJ, rIP, rJJ, rJI, rJP, rPP, rPI, rPJ, g1, g2, g3, g4, g5, g6, g7, g8, Nat.reduceEqDiff, Nat.reduceAdd, false_and, and_false, true_and, and_true, reduceIte, nZ0, nZ1, eτ11_38.1, eτ11_38.2, eτ11_39.1, eτ11_39.2, eτ11_51.1, eτ11_51.2, eτ11_52.1, eτ11_52.2, eτ11_53.1, eτ11_53.2, sτ11_33.1, sτ11_33.2, sτ11_50.1, sτ11_50.2, fun a k => (jτ11 a k).1, fun a k => (jτ11 a k).2, pτ11]) <;> (first | omega | with_reducible assumption | (unfold rng; omega) | (unfold rng; (repeat' split) <;> omega) | grind)
                · rename_i hc181
                  skip
                  unfold w_X16_emit_184
                  try simp only [forall_eq, rII, rIJ, rIP, rJJ, rJI, rJP, rPP, rPI, rPJ, g1, g2, g3, g4, g5, g6, g7, g8, Nat.reduceEqDiff, Nat.reduceAdd, false_and, and_false, true_and, and_true, reduceIte, nZ0, nZ1, eτ11_38.1, eτ11_38.2, eτ11_39.1, eτ11_39.2, eτ11_51.1, eτ11_51.2, eτ11_52.1, eτ11_52.2, eτ11_53.1, eτ11_53.2, sτ11_33.1, sτ11_33.2, sτ11_50.1, sτ11_50.2, fun a k => (jτ11 a k).1, fun a k => (jτ11 a k).2, pτ11]
                  unfold w_X16_emit_189
                  try simp only [forall_eq, rII, rIJ, rIP, rJJ, rJI, rJP, rPP, rPI, rPJ, g1, g2, g3, g4, g5, g6, g7, g8, Nat.reduceEqDiff, Nat.reduceAdd, false_and, and_false, true_and, and_true, reduceIte, nZ0, nZ1, eτ11_38.1, eτ11_38.2, eτ11_39.1, eτ11_39.2, eτ11_51.1, eτ11_51.2, eτ11_52.1, eτ11_52.2, eτ11_53.1, eτ11_53.2, sτ11_33.1, sτ11_33.2, sτ11_50.1, sτ11_50.2, fun a k => (jτ11 a k).1, fun a k => (jτ11 a k).2, pτ11]
                  unfold w_X16_emit_191
                  try simp only [forall_eq, rII, rIJ, rIP, rJJ, rJI, rJP, rPP, rPI, rPJ, g1, g2, g3, g4, g5, g6, g7, g8, Nat.reduceEqDiff, Nat.reduceAdd, false_and, and_false, true_and, and_true, reduceIte, nZ0, nZ1, eτ11_38.1, eτ11_38.2, eτ11_39.1, eτ11_39.2, eτ11_51.1, eτ11_51.2, eτ11_52.1, eτ11_52.2, eτ11_53.1, eτ11_53.2, sτ11_33.1, sτ11_33.2, sτ11_50.1, sτ11_50.2, fun a k => (jτ11 a k).1, fun a k => (jτ11 a k).2, pτ11]
                  try rw [if_neg (by decide)]
                  unfold w_X16_emit_196
                  try simp only [forall_eq, rII, rIJ, rIP, rJJ, rJI, rJP, rPP, rPI, rPJ, g1, g2, g3, g4, g5, g6, g7, g8, Nat.reduceEqDiff, Nat.reduceAdd, false_and, and_false, true_and, and_true, reduceIte, nZ0, nZ1, eτ11_38.1, eτ11_38.2, eτ11_39.1, eτ11_39.2, eτ11_51.1, eτ11_51.2, eτ11_52.1, eτ11_52.2, eτ11_53.1, eτ11_53.2, sτ11_33.1, sτ11_33.2, sτ11_50.1, sτ11_50.2, fun a k => (jτ11 a k).1, fun a k => (jτ11 a k).2, pτ11]
                  refine s_X16_box (b6 := b4) (n6 := n4) g rτ11 ha4 hr4 (by assumption) (by (try simp only [rII, rIJ, rIP, rJJ, rJI, rJP, rPP, rPI, rPJ, g1, g2, g3, g4, g5, g6, g7, g8, Nat.reduceEqDiff, Nat.reduceAdd, false_and, and_false, true_and, and_true, reduceIte, nZ0, nZ1, eτ11_38.1, eτ11_38.2, eτ11_39.1, eτ11_39.2, eτ11_51.1, eτ11_51.2, eτ11_52.1, eτ11_52.2, eτ11_53.1, eτ11_53.2, sτ11_33.1, sτ11_33.2, sτ11_50.1, sτ11_50.2, fun a k => (jτ11 a k).1, fun a k => (jτ11 a k).2, pτ11]) <;> (first | omega | with_reducible assumption | (unfold rng; omega) | (unfold rng; (repeat' split) <;> omega) | grind)) (by (try simp only [rII, rIJ, rIP, rJJ, rJI, rJP, rPP, rPI, rPJ, g1, g2, g3, g4, g5, g6, g7, g8, Nat.reduceEqDiff, Nat.reduceAdd, false_and, and_false, true_and, and_true, reduceIte, nZ0, nZ1, eτ11_38.1, eτ11_38.2, eτ11_39.1, eτ11_39.2, eτ11_51.1, eτ11_51.2, eτ11_52.1, eτ11_52.2, eτ11_53.1, eτ11_53.2, sτ11_33.1, sτ11_33.2, sτ11_50.1, sτ11_50.2, fun a k => (jτ11 a k).1, fun a k => (jτ11 a k).2, pτ11]) <;> (first | omega | with_reducible assumption | (unfold rng; omega) | (unfold rng; (repeat' split) <;> omega) | grind)) (by (try simp only [rII, rIJ, rIP, rJJ, rJI, rJP, rPP, rPI, rPJ, g1, g2, g3, g4, g5, g6, g7, g8, Nat.reduceEqDiff, Nat.reduceAdd, false_and, and_false, true_and, and_true, reduceIte, nZ0, nZ1, eτ11_38.1, eτ11_38.2, eτ11_39.1, eτ11_39.2, eτ11_51.1, eτ11_51.2, eτ11_52.1, eτ11_52.2, eτ11_53.1, eτ11_53.2, sτ11_33.1, sτ11_33.2, sτ11_50.1, sτ11_50.2, fun a k => (jτ11 a k).1, fun a k => (jτ11 a k).2, pτ11]) <;> (first | omega | with_reducible assumption | (unfold rng; omega) | (unfold rng; (repeat' split) <;> omega) | grind)) (by (try simp only [rII, rIJ, rIP, rJJ, rJI, rJP, rPP, rPI, rPJ, g1, g2, g3, g4, g5, g6, g7, g8, Nat.reduceEqDiff, Nat.reduceAdd, false_and, and_false, true_and, and_true, reduceIte, nZ0, nZ1, eτ11_38.1, eτ11_38.2, eτ11_39.1, eτ11_39.2, eτ11_51.1, eτ11_51.2, eτ11_52.1, eτ11_52.2, eτ11_53.1, eτ11_53.2, sτ11_33.1, sτ11_33.2, sτ11_50.1, sτ11_50.2, fun a k => (jτ11 a k).1, fun a k => (jτ11 a k).2, pτ11]) <;> (first | omega | with_reducible assumption | (unfold rng; omega) | (unfold rng; (repeat' split) <;> omega) | grind)) (by (try simp only [rII, rIJ, rIP, rJJ, rJI, rJP, rPP, rPI, rPJ, g1, g2, g3, g4, g5, g6, g7, g8, Nat.reduceEqDiff, Nat.reduceAdd, false_and, and_false, true_and, and_true, reduceIte, nZ0, nZ1, eτ11_38.1, eτ11_38.2, eτ11_39.1, eτ11_39.2, eτ11_51.1, eτ11_51.2, eτ11_52.1, eτ11_52.2, eτ11_53.1, eτ11_53.2, sτ11_33.1, sτ11_33.2, sτ11_50.1, sτ11_50.2, fun a k => (jτ11 a k).1, fun a k => (jτ11 a k).2, pτ11]) <;> (first | omega | with_reducible assumption | (unfold rng; omega) | (unfold rng; (repeat' split) <;> omega) | grind)) (by (try simp only [rII, rIJ, rIP, rJJ, rJI, rJP, rPP, rPI, rPJ, g1, g2, g3, g4, g5, g6, g7, g8, Nat.reduceEqDiff, Nat.reduceAdd, false_and, and_false, true_and, and_true, reduceIte, nZ0, nZ1, eτ11_38.1, eτ11_38.2, eτ11_39.1, eτ11_39.2, eτ11_51.1, eτ11_51.2, eτ11_52.1, eτ11_52.2, eτ11_53.1, eτ11_53.2, sτ11_33.1, sτ11_33.2, sτ11_50.1, sτ11_50.2, fun a k => (jτ11 a k).1, fun a k => (jτ11 a k).2, pτ11]) <;> (first | omega | with_reducible assumption | (unfold rng; omega) | (unfold rng; (repeat' split) <;> omega) | grind)) (by (try simp only [rII, rIJ, rIP, rJJ, rJI, rJP, rPP, rPI, rPJ, g1, g2, g3, g4, g5, g6, g7, g8, Nat.reduceEqDiff, Nat.reduceAdd, false_and, and_false, true_and, and_true, reduceIte, nZ0, nZ1, eτ11_38.1, eτ11_38.2, eτ11_39.1, eτ11_39.2, eτ11_51.1, eτ11_51.2, eτ11_52.1, eτ11_52.2, eτ11_53.1, eτ11_53.2, sτ11_33.1, sτ11_33.2, sτ11_50.1, sτ11_50.2, fun a k => (jτ11 a k).1, fun a k => (jτ11 a k).2, pτ11]) <;> (first | omega | with_reducible assumption | (unfold rng; omega) | (unfold rng; (repeat' split) <;> omega) | grind)) (fun σ61 _ rσ61 fc p23 => ?_) (fun σx E rx fx px => hX _ _ rx (Fr.tr fτ11 (Fr.mor (fx) (by decide) (by decide))) px)
                  have fσ61 : Fr ra jx rm [46, 47, 48, 49, 60, 61, 62, 63, 64, 65] [66, 67] σ σ61 := Fr.tr fτ11 (Fr.mor (fc) (by decide) (by decide))
                  have eσ61_38 := fσ61.1 38 (by decide)
                  have eσ61_39 := fσ61.1 39 (by decide)
                  have eσ61_51 := fσ61.1 51 (by decide)
                  have eσ61_52 := fσ61.1 52 (by decide)
                  have eσ61_53 := fσ61.1 53 (by decide)
                  have sσ61_33 := fσ61.2.1 33 (by decide)
                  have sσ61_50 := fσ61.2.1 50 (by decide)
                  have jσ61 := fσ61.2.2.1
                  have pσ61 := fσ61.2.2.2
                  try simp only [forall_eq, rII, rIJ, rIP, rJJ, rJI, rJP, rPP, rPI, rPJ, g1, g2, g3, g4, g5, g6, g7, g8, Nat.reduceEqDiff, Nat.reduceAdd, false_and, and_false, true_and, and_true, reduceIte, nZ0, nZ1, eσ61_38.1, eσ61_38.2, eσ61_39.1, eσ61_39.2, eσ61_51.1, eσ61_51.2, eσ61_52.1, eσ61_52.2, eσ61_53.1, eσ61_53.2, sσ61_33.1, sσ61_33.2, sσ61_50.1, sσ61_50.2, fun a k => (jσ61 a k).1, fun a k => (jσ61 a k).2, pσ61]
                  unfold w_X16_emit_211
                  try simp only [forall_eq, rII, rIJ, rIP, rJJ, rJI, rJP, rPP, rPI, rPJ, g1, g2, g3, g4, g5, g6, g7, g8, Nat.reduceEqDiff, Nat.reduceAdd, false_and, and_false, true_and, and_true, reduceIte, nZ0, nZ1, eσ61_38.1, eσ61_38.2, eσ61_39.1, eσ61_39.2, eσ61_51.1, eσ61_51.2, eσ61_52.1, eσ61_52.2, eσ61_53.1, eσ61_53.2, sσ61_33.1, sσ61_33.2, sσ61_50.1, sσ61_50.2, fun a k => (jσ61 a k).1, fun a k => (jσ61 a k).2, pσ61]
                  refine ⟨by (first | omega | with_reducible assumption | (unfold rng; omega) | (unfold rng; (repeat' split) <;> omega) | grind), ?_⟩
                  refine ih11 _ _ ?_ ?_ ?_ ?_
                  · exact rσ61
                  · exact fσ61
                  · refine ⟨by assumption, ?_, ?_⟩ <;> (first | omega | with_reducible assumption | (unfold rng; omega) | (unfold rng; (repeat' split) <;> omega) | grind)
                  · (try simp only [rII, rIJ, rIP, rJJ, rJI, rJP, rPP, rPI, rPJ, g1, g2, g3, g4, g5, g6, g7, g8, Nat.reduceEqDiff, Nat.reduceAdd, false_and, and_false, true_and, and_true, reduceIte, nZ0, nZ1, eσ61_38.1, eσ61_38.2, eσ61_39.1, eσ61_39.2, eσ61_51.1, eσ61_51.2, eσ61_52.1, eσ61_52.2, eσ61_53.1, eσ61_53.2, sσ61_33.1, sσ61_33.2, sσ61_50.1, sσ61_50.2, fun a k => (jσ61 a k).1, fun a k => (jσ61 a k).2, pσ61]) <;> (first | omega | with_reducible assumption | (unfold rng; omega) | (unfold rng; (repeat' split) <;> omega) | grind)
          · rename_i hc71
            skip
            unfold w_X16_emit_74
            try simp only [forall_eq, rII, rIJ, rIP, rJJ, rJI, rJP, rPP, rPI, rPJ, g1, g2, g3, g4, g5, g6, g7, g8, Nat.reduceEqDiff, Nat.reduceAdd, false_and, and_false, true_and, and_true, reduceIte, nZ0, nZ1, eτ11_38.1, eτ11_38.2, eτ11_39.1, eτ11_39.2, eτ11_51.1, eτ11_51.2, eτ11_52.1, eτ11_52.2, eτ11_53.1, eτ11_53.2, sτ11_33.1, sτ11_33.2, sτ11_50.1, sτ11_50.2, fun a k => (jτ11 a k).1, fun a k => (jτ11 a k).2, pτ11]
            refine ⟨by (first | omega | with_reducible assumption | (unfold rng; omega) | (unfold rng; (repeat' split) <;> omega) | grind), ?_⟩
            have q24 := rσ.1 53 (v10.toNat); simp only [rgT] at q24
            split
            · rename_i hc86
              skip
              unfold w_X16_emit_102
              try simp only [forall_eq, rII, rIJ, rIP, rJJ, rJI, rJP, rPP, rPI, rPJ, g1, g2, g3, g4, g5, g6, g7, g8, Nat.reduceEqDiff, Nat.reduceAdd, false_and, and_false, true_and, and_true, reduceIte, nZ0, nZ1, eτ11_38.1, eτ11_38.2, eτ11_39.1, eτ11_39.2, eτ11_51.1, eτ11_51.2, eτ11_52.1, eτ11_52.2, eτ11_53.1, eτ11_53.2, sτ11_33.1, sτ11_33.2, sτ11_50.1, sτ11_50.2, fun a k => (jτ11 a k).1, fun a k => (jτ11 a k).2, pτ11]
              refine ⟨ja, by exact hj, hja, ?_⟩
              refine ⟨by (first | omega | with_reducible assumption | (unfold rng; omega) | (unfold rng; (repeat' split) <;> omega) | grind), ?_⟩
              unfold w_X16_emit_112
              try simp only [forall_eq, rII, rIJ, rIP, rJJ, rJI, rJP, rPP, rPI, rPJ, g1, g2, g3, g4, g5, g6, g7, g8, Nat.reduceEqDiff, Nat.reduceAdd, false_and, and_false, true_and, and_true, reduceIte, nZ0, nZ1, eτ11_38.1, eτ11_38.2, eτ11_39.1, eτ11_39.2, eτ11_51.1, eτ11_51.2, eτ11_52.1, eτ11_52.2, eτ11_53.1, eτ11_53.2, sτ11_33.1, sτ11_33.2, sτ11_50.1, sτ11_50.2, fun a k => (jτ11 a k).1, fun a k => (jτ11 a k).2, pτ11]
              have q25 := rσ.2.2.1 ja 11 ((gI σ (ra 38) (gI σ (ra 52) v10.toNat).toNat).toNat); simp only [rgJ] at q25
              refine ⟨by (first | omega | with_reducible assumption | (unfold rng; omega) | (unfold rng; (repeat' split) <;> omega) | grind), ?_⟩
              refine ⟨b4, n4, ha4, hr4, by (first | omega | with_reducible assumption | (unfold rng; omega) | (unfold rng; (repeat' split) <;> omega) | grind), ?_⟩
              refine s_X16_partOf g rτ11 (by (try simp only [rII, rIJ, rIP, rJJ, rJI, rJP, rPP, rPI, rPJ, g1, g2, g3, g4, g5, g6, g7, g8, Nat.reduceEqDiff, Nat.reduceAdd, false_and, and_false, true_and, and_true, reduceIte, nZ0, nZ1, eτ11_38.1, eτ11_38.2, eτ11_39.1, eτ11_39.2, eτ11_51.1, eτ11_51.2, eτ11_52.1, eτ11_52.2, eτ11_53.1, eτ11_53.2, sτ11_33.1, sτ11_33.2, sτ11_50.1, sτ11_50.2, fun a k => (jτ11 a k).1, fun a k => (jτ11 a k).2, pτ11]) <;> first | omega | assumption) (fun r66 p26 => ?_)
              try simp only [forall_eq, rII, rIJ, rIP, rJJ, rJI, rJP, rPP, rPI, rPJ, g1, g2, g3, g4, g5, g6, g7, g8, Nat.reduceEqDiff, Nat.reduceAdd, false_and, and_false, true_and, and_true, reduceIte, nZ0, nZ1, eτ11_38.1, eτ11_38.2, eτ11_39.1, eτ11_39.2, eτ11_51.1, eτ11_51.2, eτ11_52.1, eτ11_52.2, eτ11_53.1, eτ11_53.2, sτ11_33.1, sτ11_33.2, sτ11_50.1, sτ11_50.2, fun a k => (jτ11 a k).1, fun a k => (jτ11 a k).2, pτ11]
              have q27 := rσ.1 39 ((gI σ (ra 52) v10.toNat).toNat); simp only [rgT] at q27
              split
              · rename_i hc119
                skip
                unfold w_X16_emit_126
                try simp only [forall_eq, rII, rIJ, rIP, rJJ, rJI, rJP, rPP, rPI, rPJ, g1, g2, g3, g4, g5, g6, g7, g8, Nat.reduceEqDiff, Nat.reduceAdd, false_and, and_false, true_and, and_true, reduceIte, nZ0, nZ1, eτ11_38.1, eτ11_38.2, eτ11_39.1, eτ11_39.2, eτ11_51.1, eτ11_51.2, eτ11_52.1, eτ11_52.2, eτ11_53.1, eτ11_53.2, sτ11_33.1, sτ11_33.2, sτ11_50.1, sτ11_50.2, fun a k => (jτ11 a k).1, fun a k => (jτ11 a k).2, pτ11]
                unfold w_X16_emit_127
                try simp only [forall_eq, rII, rIJ, rIP, rJJ, rJI, rJP, rPP, rPI, rPJ, g1, g2, g3, g4, g5, g6, g7, g8, Nat.reduceEqDiff, Nat.reduceAdd, false_and, and_false, true_and, and_true, reduceIte, nZ0, nZ1, eτ11_38.1, eτ11_38.2, eτ11_39.1, eτ11_39.2, eτ11_51.1, eτ11_51.2, eτ11_52.1, eτ11_52.2, eτ11_53.1, eτ11_53.2, sτ11_33.1, sτ11_33.2, sτ11_50.1, sτ11_50.2, fun a k => (jτ11 a k).1, fun a k => (jτ11 a k).2, pτ11]
                unfold w_X16_emit_191
                try simp only [forall_eq, rII, rIJ, rIP, rJJ, rJI, rJP, rPP, rPI, rPJ, g1, g2, g3, g4, g5, g6, g7, g8, Nat.reduceEqDiff, Nat.reduceAdd, false_and, and_false, true_and, and_true, reduceIte, nZ0, nZ1, eτ11_38.1, eτ11_38.2, eτ11_39.1, eτ11_39.2, eτ11_51.1, eτ11_51.2, eτ11_52.1, eτ11_52.2, eτ11_53.1, eτ11_53.2, sτ11_33.1, sτ11_33.2, sτ11_50.1, sτ11_50.2, fun a k => (jτ11 a k).1, fun a k => (jτ11 a k).2, pτ11]
                try rw [if_pos (by decide)]
                unfold w_X16_emit_211
                try simp only [forall_eq, rII, rIJ, rIP, rJJ, rJI, rJP, rPP, rPI, rPJ, g1, g2, g3, g4, g5, g6, g7, g8, Nat.reduceEqDiff, Nat.reduceAdd, false_and, and_false, true_and, and_true, reduceIte, nZ0, nZ1, eτ11_38.1, eτ11_38.2, eτ11_39.1, eτ11_39.2, eτ11_51.1, eτ11_51.2, eτ11_52.1, eτ11_52.2, eτ11_53.1, eτ11_53.2, sτ11_33.1, sτ11_33.2, sτ11_50.1, sτ11_50.2, fun a k => (jτ11 a k).1, fun a k => (jτ11 a k).2, pτ11]
                refine ⟨by (first | omega | with_reducible assumption | (unfold rng; omega) | (unfold rng; (repeat' split) <;> omega) | grind), ?_⟩
                refine ih11 _ _ ?_ ?_ ?_ ?_
                · exact rτ11
                · exact fτ11
                · refine ⟨by assumption, ?_, ?_⟩ <;> (first | omega | with_reducible assumption | (unfold rng; omega) | (unfold rng; (repeat' split) <;> omega) | grind)
                · (try simp only [rII, rIJ, rIP, rJJ, rJI, rJP, rPP, rPI, rPJ, g1, g2, g3, g4, g5, g6, g7, g8, Nat.reduceEqDiff, Nat.reduceAdd, false_and, and_false, true_and, and_true, reduceIte, nZ0, nZ1, eτ11_38.1, eτ11_38.2, eτ11_39.1, eτ11_39.2, eτ11_51.1, eτ11_51.2, eτ11_52.1, eτ11_52.2, eτ11_53.1, eτ11_53.2, sτ11_33.1, sτ11_33.2, sτ11_50.1, sτ11_50.2, fun a k => (jτ11 a k).1, fun a k => (jτ11 a k).2, pτ11]) <;> (first | omega | with_reducible assumption | (unfold rng; omega) | (unfold rng; (repeat' split) <;> omega) | grind)
              · rename_i hc119
                skip
                unfold w_X16_emit_122
                try simp only [forall_eq, rII, rIJ, rIP, rJJ, rJI, rJP, rPP, rPI, rPJ, g1, g2, g3, g4, g5, g6, g7, g8, Nat.reduceEqDiff, Nat.reduceAdd, false_and, and_false, true_and, and_true, reduceIte, nZ0, nZ1, eτ11_38.1, eτ11_38.2, eτ11_39.1, eτ11_39.2, eτ11_51.1, eτ11_51.2, eτ11_52.1, eτ11_52.2, eτ11_53.1, eτ11_53.2, sτ11_33.1, sτ11_33.2, sτ11_50.1, sτ11_50.2, fun a k => (jτ11 a k).1, fun a k => (jτ11 a k).2, pτ11]
                unfold w_X16_emit_127
                try simp only [forall_eq, rII, rIJ, rIP, rJJ, rJI, rJP, rPP, rPI, rPJ, g1, g2, g3, g4, g5, g6, g7, g8, Nat.reduceEqDiff, Nat.reduceAdd, false_and, and_false, true_and, and_true, reduceIte, nZ0, nZ1, eτ11_38.1, eτ11_38.2, eτ11_39.1, eτ11_39.2, eτ11_51.1, eτ11_51.2, eτ11_52.1, eτ11_52.2, eτ11_53.1, eτ11_53.2, sτ11_33.1, sτ11_33.2, sτ11_50.1, sτ11_50.2, fun a k => (jτ11 a k).1, fun a k => (jτ11 a k).2, pτ11]
                unfold w_X16_emit_191
                try simp only [forall_eq, rII, rIJ, rIP, rJJ, rJI, rJP, rPP, rPI, rPJ, g1, g2, g3, g4, g5, g6, g7, g8, Nat.reduceEqDiff, Nat.reduceAdd, false_and, and_false, true_and, and_true, reduceIte, nZ0, nZ1, eτ11_38.1, eτ11_38.2, eτ11_39.1, eτ11_39.2, eτ11_51.1, eτ11_51.2, eτ11_52.1, eτ11_52.2, eτ11_53.1, eτ11_53.2, sτ11_33.1, sτ11_33.2, sτ11_50.1, sτ11_50.2, fun a k => (jτ11 a k).1, fun a k => (jτ11 a k).2, pτ11]
                try rw [if_neg (by decide)]
                unfold w_X16_emit_196
                try simp only [forall_eq, rII, rIJ, rIP, rJJ, rJI, rJP, rPP, rPI, rPJ, g1, g2, g3, g4, g5, g6, g7, g8, Nat.reduceEqDiff, Nat.reduceAdd, false_and, and_false, true_and, and_true, reduceIte, nZ0, nZ1, eτ11_38.1, eτ11_38.2, eτ11_39.1, eτ11_39.2, eτ11_51.1, eτ11_51.2, eτ11_52.1, eτ11_52.2, eτ11_53.1, eτ11_53.2, sτ11_33.1, sτ11_33.2, sτ11_50.1, sτ11_50.2, fun a k => (jτ11 a k).1, fun a k => (jτ11 a k).2, pτ11]
                refine s_X16_box (b6 := b4) (n6 := n4) g rτ11 ha4 hr4 (by assumption) (by (try simp only [rII, rIJ, rIP, rJJ, rJI, rJP, rPP, rPI, rPJ, g1, g2, g3, g4, g5, g6, g7, g8, Nat.reduceEqDiff, Nat.reduceAdd, false_and, and_false, true_and, and_true, reduceIte, nZ0, nZ1, eτ11_38.1, eτ11_38.2, eτ11_39.1, eτ11_39.2, eτ11_51.1, eτ11_51.2, eτ11_52.1, eτ11_52.2, eτ11_53.1, eτ11_53.2, sτ11_33.1, sτ11_33.2, sτ11_50.1, sτ11_50.2, fun a k => (jτ11 a k).1, fun a k => (jτ11 a k).2, pτ11]) <;> (first | omega | with_reducible assumption | (unfold rng; omega) | (unfold rng; (repeat' split) <;> omega) | grind)) (by (try simp only [rII, rIJ, rIP, rJJ, rJI, rJP, rPP, rPI, rPJ, g1, g2, g3, g4, g5, g6, g7, g8, Nat.reduceEqDiff, Nat.reduceAdd, false_and, and_false, true_and, and_true, reduceIte, nZ0, nZ1, eτ11_38.1, eτ11_38.2, eτ11_39.1, eτ11_39.2, eτ11_51.1, eτ11_51.2, eτ11_52.1, eτ11_52.2, eτ11_53.1, eτ11_53.2, sτ11_33.1, sτ11_33.2, sτ11_50.1, sτ11_50.2, fun a k => (jτ11 a k).1, fun a k => (jτ11 a k).2, pτ11]) <;> (first | omega | with_reducible assumption | (unfold rng; omega) | (unfold rng; (repeat' split) <;> omega) | grind)) (by (try simp only [rII, rIJ, rIP, rJJ, rJI, rJP, rPP, rPI, rPJ, g1, g2, g3, g4, g5, g6, g7, g8, Nat.reduceEqDiff, Nat.reduceAdd, false_and, and_false, true_and, and_true, reduceIte, nZ0, nZ1, eτ11_38.1, eτ11_38.2, eτ11_39.1, eτ11_39.2, eτ11_51.1, eτ11_51.2, eτ11_52.1, eτ11_52.2, eτ11_53.1, eτ11_53.2, sτ11_33.1, sτ11_33.2, sτ11_50.1, sτ11_50.2, fun a k => (jτ11 a k).1, fun a k => (jτ11 a k).2, pτ11]) <;> (first | omega | with_reducible assumption | (unfold rng; omega) | (unfold rng; (repeat' split) <;> omega) | grind)) (by (try simp only [rII, rIJ, rIP, rJJ, rJI, rJP, rPP, rPI, rPJ, g1, g2, g3, g4, g5, g6, g7, g8, Nat.reduceEqDiff, Nat.reduceAdd, false_and, and_false, true_and, and_true, reduceIte, nZ0, nZ1, eτ11_38.1, eτ11_38.2, eτ11_39.1, eτ11_39.2, eτ11_51.1, eτ11_51.2, eτ11_52.1, eτ11_52.2, eτ11_53.1, eτ11_53.2, sτ11_33.1, sτ11_33.2, sτ11_50.1, sτ11_50.2, fun a k => (jτ11 a k).1, fun a k => (jτ11 a k).2, pτ11]) <;> (first | omega | with_reducible assumption | (unfold rng; omega) | (unfold rng; (repeat' split) <;> omega) | grind)) (by (try simp only [rII, rIJ, rIP, rJJ, rJI, rJP, rPP, rPI, rPJ, g1, g2, g3, g4, g5, g6, g7, g8, Nat.reduceEqDiff, Nat.reduceAdd, false_and, and_false, true_and, and_true, reduceIte, nZ0, nZ1, eτ11_38.1, eτ11_38.2, eτ11_39.1, eτ11_39.2, eτ11_51.1, eτ11_51.2, eτ11_52.1, eτ11_52.2, eτ11_53.1, eτ11_53.2, sτ11_33.1, sτ11_33.2, sτ11_50.1, sτ11_50.2, fun a k => (jτ11 a k).1, fun a k => (jτ11 a k).2, pτ11]) <;> (first | omega | with_reducible assumption | (unfold rng; omega) | (unfold rng; (repeat' split) <;> omega) | grind)) (by (try simp only [rII, rIJ, rIP, rJJ, rJI, rJP, rPP, rPI, rPJ, g1, g2, g3, g4, g5, g6, g7, g8, Nat.reduceEqDiff, Nat.reduceAdd, false_and, and_false, true_and, and_true, reduceIte, nZ0, nZ1, eτ11_38.1, eτ11_38.2, eτ11_39.1, eτ11_39.2, eτ11_51.1, eτ11_51.2, eτ11_52.1, eτ11_52.2, eτ11_53.1, eτ11_53.2, sτ11_33.1, sτ11_33.2, sτ11_50.1, sτ11_50.2, fun a k => (jτ11 a k).1, fun a k => (jτ11 a k).2, pτ11]) <;> (first | omega | with_reducible assumption | (unfold rng; omega) | (unfold rng; (repeat' split) <;> omega) | grind)) (by (try simp only [rII, rIJ, rIP, rJJ, rJI, rJP, rPP, rPI, rPJ, g1, g2, g3, g4, g5, g6, g7, g8, Nat.reduceEqDiff, Nat.reduceAdd, false_and, and_false, true_and, and_true, reduceIte, nZ0, nZ1, eτ11_38.1, eτ11_38.2, eτ11_39.1, eτ11_39.2, eτ11_51.1, eτ11_51.2, eτ11_52.1, eτ11_52.2, eτ11_53.1, eτ11_53.2, sτ11_33.1, sτ11_33.2, sτ11_50.1, sτ11_50.2, fun a k => (jτ11 a k).1, fun a k => (jτ11 a k).2, pτ11]) <;> (first | omega | with_reducible assumption | (unfold rng; omega) | (unfold rng; (repeat' split) <;> omega) | grind)) (fun σ67 _ rσ67 fc p28 => ?_) (fun σx E rx fx px => hX _ _ rx (Fr.tr fτ11 (Fr.mor (fx) (by decide) (by decide))) px)
                have fσ67 : Fr ra jx rm [46, 47, 48, 49, 60, 61, 62, 63, 64, 65] [66, 67] σ σ67 := Fr.tr fτ11 (Fr.mor (fc) (by decide) (by decide))
                have eσ67_38 := fσ67.1 38 (by decide)
                have eσ67_39 := fσ67.1 39 (by decide)
                have eσ67_51 := fσ67.1 51 (by decide)
                have eσ67_52 := fσ67.1 52 (by decide)
                have eσ67_53 := fσ67.1 53 (by decide)
                have sσ67_33 := fσ67.2.1 33 (by decide)
                have sσ67_50 := fσ67.2.1 50 (by decide)
                have jσ67 := fσ67.2.2.1
                have pσ67 := fσ67.2.2.2
                try simp only [forall_eq, rII, rIJ, rIP, rJJ, rJI, rJP, rPP, rPI, rPJ, g1, g2, g3, g4, g5, g6, g7, g8, Nat.reduceEqDiff, Nat.reduceAdd, false_and, and_false, true_and, and_true, reduceIte, nZ0, nZ1, eσ67_38.1, eσ67_38.2, eσ67_39.1, eσ67_39.2, eσ67_51.1, eσ67_51.2, eσ67_52.1, eσ67_52.2, eσ67_53.1, eσ67_53.2, sσ67_33.1, sσ67_33.2, sσ67_50.1, sσ67_50.2, fun a k => (jσ67 a k).1, fun a k => (jσ67 a k).2, pσ67]
                unfold w_X16_emit_211
                try simp only [forall_eq, rII, rIJ, rIP, rJJ, rJI, rJP, rPP, rPI, rPJ, g1, g2, g3, g4, g5, g6, g7, g8, Nat.reduceEqDiff, Nat.reduceAdd, false_and, and_false, true_and, and_true, reduceIte, nZ0, nZ1, eσ67_38.1, eσ67_38.2, eσ67_39.1, eσ67_39.2, eσ67_51.1, eσ67_51.2, eσ67_52.1, eσ67_52.2, eσ67_53.1, eσ67_53.2, sσ67_33.1, sσ67_33.2, sσ67_50.1, sσ67_50.2, fun a k => (jσ67 a k).1, fun a k => (jσ67 a k).2, pσ67]
                refine ⟨by (first | omega | with_reducible assumption | (unfold rng; omega) | (unfold rng; (repeat' split) <;> omega) | grind), ?_⟩
                refine ih11 _ _ ?_ ?_ ?_ ?_
                · exact rσ67
                · exact fσ67
                · refine ⟨by assumption, ?_, ?_⟩ <;> (first | omega | with_reducible assumption | (unfold rng; omega) | (unfold rng; (repeat' split) <;> omega) | grind)
                · (try simp only [rII, rIJ, rIP, rJJ, rJI, rJP, rPP, rPI, rPJ, g1, g2, g3, g4, g5, g6, g7, g8, Nat.reduceEqDiff, Nat.reduceAdd, false_and, and_false, true_and, and_true, reduceIte, nZ0, nZ1, eσ67_38.1, eσ67_38.2, eσ67_39.1, eσ67_39.2, eσ67_51.1, eσ67_51.2, eσ67_52.1, eσ67_52.2, eσ67_53.1, eσ67_53.2, sσ67_33.1, sσ67_33.2, sσ67_50.1, sσ67_50.2, fun a k => (jσ67 a k).1, fun a k => (jσ67 a k).2, pσ67]) <;> (first | omega | with_reducible assumption | (unfold rng; omega) | (unfold rng; (repeat' split) <;> omega) | grind)
            · rename_i hc86
              skip
              unfold w_X16_emit_89
              try simp only [forall_eq, rII, rIJ, rIP, rJJ, rJI, rJP, rPP, rPI, rPJ, g1, g2, g3, g4, g5, g6, g7, g8, Nat.reduceEqDiff, Nat.reduceAdd, false_and, and_false, true_and, and_true, reduceIte, nZ0, nZ1, eτ11_38.1, eτ11_38.2, eτ11_39.1, eτ11_39.2, eτ11_51.1, eτ11_51.2, eτ11_52.1, eτ11_52.2, eτ11_53.1, eτ11_53.2, sτ11_33.1, sτ11_33.2, sτ11_50.1, sτ11_50.2, fun a k => (jτ11 a k).1, fun a k => (jτ11 a k).2, pτ11]
              refine ⟨ja, by exact hj, hja, ?_⟩
              refine ⟨by (first | omega | with_reducible assumption | (unfold rng; omega) | (unfold rng; (repeat' split) <;> omega) | grind), ?_⟩
              unfold w_X16_emit_112
              try simp only [forall_eq, rII, rIJ, rIP, rJJ, rJI, rJP, rPP, rPI, rPJ, g1, g2, g3, g4, g5, g6, g7, g8, Nat.reduceEqDiff, Nat.reduceAdd, false_and, and_false, true_and, and_true, reduceIte, nZ0, nZ1, eτ11_38.1, eτ11_38.2, eτ11_39.1, eτ11_39.2, eτ11_51.1, eτ11_51.2, eτ11_52.1, eτ11_52.2, eτ11_53.1, eτ11_53.2, sτ11_33.1, sτ11_33.2, sτ11_50.1, sτ11_50.2, fun a k => (jτ11 a k).1, fun a k => (jτ11 a k).2, pτ11]
              have q29 := rσ.2.2.1 ja 10 ((gI σ (ra 38) (gI σ (ra 52) v10.toNat).toNat).toNat); simp only [rgJ] at q29
              refine ⟨by (first | omega | with_reducible assumption | (unfold rng; omega) | (unfold rng; (repeat' split) <;> omega) | grind), ?_⟩
              refine ⟨b4, n4, ha4, hr4, by (first | omega | with_reducible assumption | (unfold rng; omega) | (unfold rng; (repeat' split) <;> omega) | grind), ?_⟩
              refine s_X16_partOf g rτ11 (by (try simp only [rII, rIJ, rIP, rJJ, rJI, rJP, rPP, rPI, rPJ, g1, g2, g3, g4, g5, g6, g7, g8, Nat.reduceEqDiff, Nat.reduceAdd, false_and, and_false, true_and, and_true, reduceIte, nZ0, nZ1, eτ11_38.1, eτ11_38.2, eτ11_39.1, eτ11_39.2, eτ11_51.1, eτ11_51.2, eτ11_52.1, eτ11_52.2, eτ11_53.1, eτ11_53.2, sτ11_33.1, sτ11_33.2, sτ11_50.1, sτ11_50.2, fun a k => (jτ11 a k).1, fun a k => (jτ11 a k).2, pτ11]) <;> first | omega | assumption) (fun r72 p30 => ?_)
              try simp only [forall_eq, rII, rIJ, rIP, rJJ, rJI, rJP, rPP, rPI, rPJ, g1, g2, g3, g4, g5, g6, g7, g8, Nat.reduceEqDiff, Nat.reduceAdd, false_and, and_false, true_and, and_true, reduceIte, nZ0, nZ1, eτ11_38.1, eτ11_38.2, eτ11_39.1, eτ11_39.2, eτ11_51.1, eτ11_51.2, eτ11_52.1, eτ11_52.2, eτ11_53.1, eτ11_53.2, sτ11_33.1, sτ11_33.2, sτ11_50.1, sτ11_50.2, fun a k => (jτ11 a k).1, fun a k => (jτ11 a k).2, pτ11]
              have q31 := rσ.1 39 ((gI σ (ra 52) v10.toNat).toNat); simp only [rgT] at q31
              split
              · rename_i hc119
                skip
                unfold w_X16_emit_126
                try simp only [forall_eq, rII, rIJ, rIP, rJJ, rJI, rJP, rPP, rPI, rPJ, g1, g2, g3, g4, g5, g6, g7, g8, Nat.reduceEqDiff, Nat.reduceAdd, false_and, and_false, true_and, and_true, reduceIte, nZ0, nZ1, eτ11_38.1, eτ11_38.2, eτ11_39.1, eτ11_39.2, eτ11_51.1, eτ11_51.2, eτ11_52.1, eτ11_52.2, eτ11_53.1, eτ11_53.2, sτ11_33.1, sτ11_33.2, sτ11_50.1, sτ11_50.2, fun a k => (jτ11 a k).1, fun a k => (jτ11 a k).2, pτ11]
                unfold w_X16_emit_127
                try simp only [forall_eq, rII, rIJ, rIP, rJJ, rJI, rJP, rPP, rPI, rPJ, g1, g2, g3, g4, g5, g6, g7, g8, Nat.reduceEqDiff, Nat.reduceAdd, false_and, and_false, true_and, and_true, reduceIte, nZ0, nZ1, eτ11_38.1, eτ11_38.2, eτ11_39.1, eτ11_39.2, eτ11_51.1, eτ11_51.2, eτ11_52.1, eτ11_52.2, eτ11_53.1, eτ11_53.2, sτ11_33.1, sτ11_33.2, sτ11_50.1, sτ11_50.2, fun a k => (jτ11 a k).1, fun a k => (jτ11 a k).2, pτ11]
                unfold w_X16_emit_191
                try simp only [forall_eq, rII, rIJ, rIP, rJJ, rJI, rJP, rPP, rPI, rPJ, g1, g2, g3, g4, g5, g6, g7, g8, Nat.reduceEqDiff, Nat.reduceAdd, false_and, and_false, true_and, and_true, reduceIte, nZ0, nZ1, eτ11_38.1, eτ11_38.2, eτ11_39.1, eτ11_39.2, eτ11_51.1, eτ11_51.2, eτ11_52.1, eτ11_52.2, eτ11_53.1, eτ11_53.2, sτ11_33.1, sτ11_33.2, sτ11_50.1, sτ11_50.2, fun a k => (jτ11 a k).1, fun a k => (jτ11 a k).2, pτ11]
                try rw [if_pos (by decide)]
                unfold w_X16_emit_211
                try simp only [forall_eq, rII, rIJ, rIP, rJJ, rJI, rJP, rPP, rPI, rPJ, g1, g2, g3, g4, g5, g6, g7, g8, Nat.reduceEqDiff, Nat.reduceAdd, false_and, and_false, true_and, and_true, reduceIte, nZ0, nZ1, eτ11_38.1, eτ11_38.2, eτ11_39.1, eτ11_39.2, eτ11_51.1, eτ11_51.2, eτ11_52.1, eτ11_52.2, eτ11_53.1, eτ11_53.2, sτ11_33.1, sτ11_33.2, sτ11_50.1, sτ11_50.2, fun a k => (jτ11 a k).1, fun a k => (jτ11 a k).2, pτ11]
                refine ⟨by (first | omega | with_reducible assumption | (unfold rng; omega) | (unfold rng; (repeat' split) <;> omega) | grind), ?_⟩
                refine ih11 _ _ ?_ ?_ ?_ ?_
                · exact rτ11
                · exact fτ11
                · refine ⟨by assumption, ?_, ?_⟩ <;> (first | omega | with_reducible assumption | (unfold rng; omega) | (unfold rng; (repeat' split) <;> omega) | grind)
                · (try simp only [rII, rIJ, rIP, rJJ, rJI, rJP, rPP, rPI, rPJ, g1, g2, g3, g4, g5, g6, g7, g8, Nat.reduceEqDiff, Nat.reduceAdd, false_and, and_false, true_and, and_true, reduceIte, nZ0, nZ1, eτ11_38.1, eτ11_38.2, eτ11_39.1, eτ11_39.2, eτ11_51.1, eτ11_51.2, eτ11_52.1, eτ11_52.2, eτ11_53.1, eτ11_53.2, sτ11_33.1, sτ11_33.2, sτ11_50.1, sτ11_50.2, fun a k => (jτ11 a k).1, fun a k => (jτ11 a k).2, pτ11]) <;> (first | omega | with_reducible assumption | (unfold rng; omega) | (unfold rng; (repeat' split) <;> omega) | grind)
              · rename_i hc119
                skip
                unfold w_X16_emit_122
                try simp only [forall_eq, rII, rIJ, rIP, rJJ, rJI, rJP, rPP, rPI, rPJ, g1, g2, g3, g4, g5, g6, g7, g8, Nat.reduceEqDiff, Nat.reduceAdd, false_and, and_false, true_and, and_true, reduceIte, nZ0, nZ1, eτ11_38.1, eτ11_38.2, eτ11_39.1, eτ11_39.2, eτ11_51.1, eτ11_51.2, eτ11_52.1, eτ11_52.2, eτ11_53.1, eτ11_53.2, sτ11_33.1, sτ11_33.2, sτ11_50.1, sτ11_50.2, fun a k => (jτ11 a k).1, fun a k => (jτ11 a k).2, pτ11]
                unfold w_X16_emit_127
                try simp only [forall_eq, rII, rIJ, rIP, rJJ, rJI, rJP, rPP, rPI, rPJ, g1, g2, g3, g4, g5, g6, g7, g8, Nat.reduceEqDiff, Nat.reduceAdd, false_and, and_false, true_and, and_true, reduceIte, nZ0, nZ1, eτ11_38.1, eτ11_38.2, eτ11_39.1, eτ11_39.2, eτ11_51.1, eτ11_51.2, eτ11_52.1, eτ11_52.2, eτ11_53.1, eτ11_53.2, sτ11_33.1, sτ11_33.2, sτ11_50.1, sτ11_50.2, fun a k => (jτ11 a k).1, fun a k => (jτ11 a k).2, pτ11]
                unfold w_X16_emit_191
                try simp only [forall_eq, rII, rIJ, rIP, rJJ, rJI, rJP, rPP, rPI, rPJ, g1, g2, g3, g4, g5, g6, g7, g8, Nat.reduceEqDiff, Nat.reduceAdd, false_and, and_false, true_and, and_true, reduceIte, nZ0, nZ1, eτ11_38.1, eτ11_38.2, eτ11_39.1, eτ11_39.2, eτ11_51.1, eτ11_51.2, eτ11_52.1, eτ11_52.2, eτ11_53.1, eτ11_53.2, sτ11_33.1, sτ11_33.2, sτ11_50.1, sτ11_50.2, fun a k => (jτ11 a k).1, fun a k => (jτ11 a k).2, pτ11]
                try rw [if_neg (by decide)]
                unfold w_X16_emit_196
                try simp only [forall_eq, rII, rIJ, rIP, rJJ, rJI, rJP, rPP, rPI, rPJ, g1, g2, g3, g4, g5, g6, g7, g8, Nat.reduceEqDiff, Nat.reduceAdd, false_and, and_false, true_and, and_true, reduceIte, nZ0, nZ1, eτ11_38.1, eτ11_38.2, eτ11_39.1, eτ11_39.2, eτ11_51.1, eτ11_51.2, eτ11_52.1, eτ11_52.2, eτ11_53.1, eτ11_53.2, sτ11_33.1, sτ11_33.2, sτ11_50.1, sτ11_50.2, fun a k => (jτ11 a k).1, fun a k => (jτ11 a k).2, pτ11]
                refine s_X16_box (b6 := b4) (n6 := n4) g rτ11 ha4 hr4 (by assumption) (by (try simp only [rII, rIJ, rIP, rJJ, rJI, rJP, rPP, rPI, rPJ, g1, g2, g3, g4, g5, g6, g7, g8, Nat.reduceEqDiff, Nat.reduceAdd, false_and, and_false, true_and, and_true, reduceIte, nZ0, nZ1, eτ11_38.1, eτ11_38.2, eτ11_39.1, eτ11_39.2, eτ11_51.1, eτ11_51.2, eτ11_52.1, eτ11_52.2, eτ11_53.1, eτ11_53.2, sτ11_33.1, sτ11_33.2, sτ11_50.1, sτ11_50.2, fun a k => (jτ11 a k).1, fun a k => (jτ11 a k).2, pτ11]) <;> (first | omega | with_reducible assumption | (unfold rng; omega) | (unfold rng; (repeat' split) <;> omega) | grind)) (by (try simp only [rII, rIJ, rIP, rJJ, rJI, rJP, rPP, rPI, rPJ, g1, g2, g3, g4, g5, g6, g7, g8, Nat.reduceEqDiff, Nat.reduceAdd, false_and, and_false, true_and, and_true, reduceIte, nZ0, nZ1, eτ11_38.1, eτ11_38.2, eτ11_39.1, eτ11_39.2, eτ11_51.1, eτ11_51.2, eτ11_52.1, eτ11_52.2, eτ11_53.1, eτ11_53.2, sτ11_33.1, sτ11_33.2, sτ11_50.1, sτ11_50.2, fun a k => (jτ11 a k).1, fun a k => (jτ11 a k).2, pτ11]) <;> (first | omega | with_reducible assumption | (unfold rng; omega) | (unfold rng; (repeat' split) <;> omega) | grind)) (by (try simp only [rII, rIJ, rIP, rJJ, rJI, rJP, rPP, rPI, rPJ, g1, g2, g3, g4, g5, g6, g7, g8, Nat.reduceEqDiff, Nat.reduceAdd, false_and, and_false, true_and, and_true, reduceIte, nZ0, nZ1, eτ11_38.1, eτ11_38.2, eτ11_39.1, eτ11_39.2, eτ11_51.1, eτ11_51.2, eτ11_52.1, eτ11_52.2, eτ11_53.1, eτ11_53.2, sτ11_33.1, sτ11_33.2, sτ11_50.1, sτ11_50.2, fun a k => (jτ11 a k).1, fun a k => (jτ11 a k).2, pτ11]) <;> (first | omega | with_reducible assumption | (unfold rng; omega) | (unfold rng; (repeat' split) <;> omega) | grind)) (by (try simp only [rII, rIJ, rIP, rJJ, rJI, rJP, rPP, rPI, rPJ, g1, g2, g3, g4, g5, g6, g7, g8, Nat.reduceEqDiff, Nat.reduceAdd, false_and, and_false, true_and, and_true, reduceIte, nZ0, nZ1, eτ11_38.1, eτ11_38.2, eτ11_39.1, eτ11_39.2, eτ11_51.1, eτ11_51.2, eτ11_52.1, eτ11_52.2, eτ11_53.1, eτ11_53.2, sτ11_33.1, sτ11_33.2, sτ11_50.1, sτ11_50.2, fun a k => (jτ11 a k).1, fun a k => (jτ11 a k).2, pτ11]) <;> (first | omega | with_reducible assumption | (unfold rng; omega) | (unfold rng; (repeat' split) <;> omega) | grind)) (by (try simp only [rII, rIJ, rIP, rJJ, rJI, rJP, rPP, rPI, rPJ, g1, g2, g3, g4, g5, g6, g7, g8, Nat.reduceEqDiff, Nat.reduceAdd, false_and, and_false, true_and, and_true, reduceIte, nZ0, nZ1, eτ11_38.1, eτ11_38.2, eτ11_39.1, eτ11_39.2, eτ11_51.1, eτ11_51.2, eτ11_52.1, eτ11_52.2, eτ11_53.1, eτ11_53.2, sτ11_33.1, sτ11_33.2, sτ11_50.1, sτ11_50.2, fun a k => (jτ11 a k).1, fun a k => (jτ11 a k).2, pτ11]) <;> (first | omega | with_reducible assumption | (unfold rng; omega) | (unfold rng; (repeat' split) <;> omega) | grind)) (by (try simp only [rII, rIJ, rIP, rJJ, rJI, rJP, rPP, rPI, rPJ, g1, g2, g3, g4, g5, g6, g7, g8, Nat.reduceEqDiff, Nat.reduceAdd, false_and, and_false, true_and, and_true, reduceIte, nZ0, nZ1, eτ11_38.1, eτ11_38.2, eτ11_39.1, eτ11_39.2, eτ11_51.1, eτ11_51.2, eτ11_52.1, eτ11_52.2, eτ11_53.1, eτ11_53.2, sτ11_33.1, sτ11_33.2, sτ11_50.1, sτ11_50.2, fun a k => (jτ11 a k).1, fun a k => (jτ11 a k).2, pτ11]) <;> (first | omega | with_reducible assumption | (unfold rng; omega) | (unfold rng; (repeat' split) <;> omega) | grind)) (by (try simp only [rII, rIJ, rIP, rJJ, rJI, rJP, rPP, rPI, rPJ, g1, g2, g3, g4, g5, g6, g7, g8, Nat.reduceEqDiff, Nat.reduceAdd, false_and, and_false, true_and, and_true, reduceIte, nZ0, nZ1, eτ11_38.1, eτ11_38.2, eτ11_39.1, eτ11_39.2, eτ11_51.1, eτ11_51.2, eτ11_52.1, eτ11_52.2, eτ11_53.1, eτ11_53.2, sτ11_33.1, sτ11_33.2, sτ11_50.1, sτ11_50.2, fun a k => (jτ11 a k).1, fun a k => (jτ11 a k).2, pτ11]) <;> (first | omega | with_reducible assumption | (unfold rng; omega) | (unfold rng; (repeat' split) <;> omega) | grind)) (fun σ73 _ rσ73 fc p32 => ?_) (fun σx E rx fx px => hX _ _ rx (Fr.tr fτ11 (Fr.mor (fx) (by decide) (by decide))) px)
                have fσ73 : Fr ra jx rm [46, 47, 48, 49, 60, 61, 62, 63, 64, 65] [66, 67] σ σ73 := Fr.tr fτ11 (Fr.mor (fc) (by decide) (by decide))
                have eσ73_38 := fσ73.1 38 (by decide)
                have eσ73_39 := fσ73.1 39 (by decide)
                have eσ73_51 := fσ73.1 51 (by decide)
                have eσ73_52 := fσ73.1 52 (by decide)
                have eσ73_53 := fσ73.1 53 (by decide)
                have sσ73_33 := fσ73.2.1 33 (by decide)
                have sσ73_50 := fσ73.2.1 50 (by decide)
                have jσ73 := fσ73.2.2.1
                have pσ73 := fσ73.2.2.2
                try simp only [forall_eq, rII, rIJ, rIP, rJJ, rJI, rJP, rPP, rPI, rPJ, g1, g2, g3, g4, g5, g6, g7, g8, Nat.reduceEqDiff, Nat.reduceAdd, false_and, and_false, true_and, and_true, reduceIte, nZ0, nZ1, eσ73_38.1, eσ73_38.2, eσ73_39.1, eσ73_39.2, eσ73_51.1, eσ73_51.2, eσ73_52.1, eσ73_52.2, eσ73_53.1, eσ73_53.2, sσ73_33.1, sσ73_33.2, sσ73_50.1, sσ73_50.2, fun a k => (jσ73 a k).1, fun a k => (jσ73 a k).2, pσ73]
                unfold w_X16_emit_211
                try simp only [forall_eq, rII, rIJ, rIP, rJJ, rJI, rJP, rPP, rPI, rPJ, g1, g2, g3, g4, g5, g6, g7, g8, Nat.reduceEqDiff, Nat.reduceAdd, false_and, and_false, true_and, and_true, reduceIte, nZ0, nZ1, eσ73_38.1, eσ73_38.2, eσ73_39.1, eσ73_39.2, eσ73_51.1, eσ73_51.2, eσ73_52.1, eσ73_52.2, eσ73_53.1, eσ73_53.2, sσ73_33.1, sσ73_33.2, sσ73_50.1, sσ73_50.2, fun a k => (jσ73 a k).1, fun a k => (jσ73 a k).2, pσ73]
                refine ⟨by (first | omega | with_reducible assumption | (unfold rng; omega) | (unfold rng; (repeat' split) <;> omega) | grind), ?_⟩
                refine ih11 _ _ ?_ ?_ ?_ ?_
                · exact rσ73
                · exact fσ73
                · refine ⟨by assumption, ?_, ?_⟩ <;> (first | omega | with_reducible assumption | (unfold rng; omega) | (unfold rng; (repeat' split) <;> omega) | grind)
                · (try simp only [rII, rIJ, rIP, rJJ, rJI, rJP, rPP, rPI, rPJ, g1, g2, g3, g4, g5, g6, g7, g8, Nat.reduceEqDiff, Nat.reduceAdd, false_and, and_false, true_and, and_true, reduceIte, nZ0, nZ1, eσ73_38.1, eσ73_38.2, eσ73_39.1, eσ73_39.2, eσ73_51.1, eσ73_51.2, eσ73_52.1, eσ73_52.2, eσ73_53.1, eσ73_53.2, sσ73_33.1, sσ73_33.2, sσ73_50.1, sσ73_50.2, fun a k => (jσ73 a k).1, fun a k => (jσ73 a k).2, pσ73]) <;> (first | omega | with_reducible assumption | (unfold rng; omega) | (unfold rng; (repeat' split) <;> omega) | grind)
        · rename_i hc28
          skip
          unfold w_X16_emit_31
          try simp only [forall_eq, rII, rIJ, rIP, rJJ, rJI, rJP, rPP, rPI, rPJ, g1, g2, g3, g4, g5, g6, g7, g8, Nat.reduceEqDiff, Nat.reduceAdd, false_and, and_false, true_and, and_true, reduceIte, nZ0, nZ1, eτ11_38.1, eτ11_38.2, eτ11_39.1, eτ11_39.2, eτ11_51.1, eτ11_51.2, eτ11_52.1, eτ11_52.2, eτ11_53.1, eτ11_53.2, sτ11_33.1, sτ11_33.2, sτ11_50.1, sτ11_50.2, fun a k => (jτ11 a k).1, fun a k => (jτ11 a k).2, pτ11]
          unfold w_X16_emit_211
          try simp only [forall_eq, rII, rIJ, rIP, rJJ, rJI, rJP, rPP, rPI, rPJ, g1, g2, g3, g4, g5, g6, g7, g8, Nat.reduceEqDiff, Nat.reduceAdd, false_and, and_false, true_and, and_true, reduceIte, nZ0, nZ1, eτ11_38.1, eτ11_38.2, eτ11_39.1, eτ11_39.2, eτ11_51.1, eτ11_51.2, eτ11_52.1, eτ11_52.2, eτ11_53.1, eτ11_53.2, sτ11_33.1, sτ11_33.2, sτ11_50.1, sτ11_50.2, fun a k => (jτ11 a k).1, fun a k => (jτ11 a k).2, pτ11]
          refine ⟨by (first | omega | with_reducible assumption | (unfold rng; omega) | (unfold rng; (repeat' split) <;> omega) | grind), ?_⟩
          refine ih11 _ _ ?_ ?_ ?_ ?_
          · exact rτ11
          · exact fτ11
          · refine ⟨by assumption, ?_, ?_⟩ <;> (first | omega | with_reducible assumption | (unfold rng; omega) | (unfold rng; (repeat' split) <;> omega) | grind)
          · (try simp only [rII, rIJ, rIP, rJJ, rJI, rJP, rPP, rPI, rPJ, g1, g2, g3, g4, g5, g6, g7, g8, Nat.reduceEqDiff, Nat.reduceAdd, false_and, and_false, true_and, and_true, reduceIte, nZ0, nZ1, eτ11_38.1, eτ11_38.2, eτ11_39.1, eτ11_39.2, eτ11_51.1, eτ11_51.2, eτ11_52.1, eτ11_52.2, eτ11_53.1, eτ11_53.2, sτ11_33.1, sτ11_33.2, sτ11_50.1, sτ11_50.2, fun a k => (jτ11 a k).1, fun a k => (jτ11 a k).2, pτ11]) <;> (first | omega | with_reducible assumption | (unfold rng; omega) | (unfold rng; (repeat' split) <;> omega) | grind)
  refine ⟨_, L11 _ _ _ ?_ ?_ ?_ (Nat.lt_succ_self _)⟩
  · exact rσ
  · exact fσ
  · refine ⟨by assumption, ?_, ?_⟩ <;> (first | omega | with_reducible assumption | (unfold rng; omega) | (unfold rng; (repeat' split) <;> omega) | grind)

set_option maxHeartbeats 2000000 in
theorem s_X16_outputOf {ra : Nat → Nat} {jx : Nat → Nat → Nat} {rm : Nat} {ja : Nat} (g : Geo ra jx rm) {σ : Sg} {v1 : Int} (rσ : Rg ra jx rm σ) (hj : gP σ rm 17 = some ja) (hja : ja = ra 15 ∨ ja = ra 16) (ho : 0 ≤ v1 ∧ v1 ≤ 16) {Q : Sg → Int → Prop} {X : Sg → String → Prop} (hQ : ∀ (r : Int), (r = cO jx ja σ v1 ∧ 0 ≤ r ∧ r ≤ v1) → Q σ r) : wp_X16_outputOf ra jx rm v1 σ Q X := by
  obtain ⟨g1, g2, g3, g4, g5, g6, g7, g8⟩ := id g
  have fσ : Fr ra jx rm [] [] σ σ := Fr.rf
  unfold wp_X16_outputOf
  unfold w_X16_outputOf_0
  try simp only [forall_eq, rII, rIJ, rIP, rJJ, rJI, rJP, rPP, rPI, rPJ, g1, g2, g3, g4, g5, g6, g7, g8, Nat.reduceEqDiff, Nat.reduceAdd, false_and, and_false, true_and, and_true, reduceIte, nZ0, nZ1]
  have L4 : ∀ (fu4 : Nat) (v2 : Int) (v3 : Int), (0 ≤ v3 ∧ v3 ≤ v1 ∧ v2 = cO jx ja σ v3 ∧ 0 ≤ v2 ∧ v2 ≤ v3) → ((v1 - v3).toNat) < fu4 → wl_X16_outputOf_4 ra jx rm Q X fu4 σ v1 v2 v3 := by
    intro fu4
    induction fu4 with
    | zero => intro  _ _ _ h9; omega
    | succ fu4 ih4 =>
      intro v2 v3 hi4 hm4
      unfold wl_X16_outputOf_4
      unfold w_X16_outputOf_4
      try simp only [forall_eq, rII, rIJ, rIP, rJJ, rJI, rJP, rPP, rPI, rPJ, g1, g2, g3, g4, g5, g6, g7, g8, Nat.reduceEqDiff, Nat.reduceAdd, false_and, and_false, true_and, and_true, reduceIte, nZ0, nZ1]
      split
      · rename_i hc6
        skip
        unfold w_X16_outputOf_37
        try simp only [forall_eq, rII, rIJ, rIP, rJJ, rJI, rJP, rPP, rPI, rPJ, g1, g2, g3, g4, g5, g6, g7, g8, Nat.reduceEqDiff, Nat.reduceAdd, false_and, and_false, true_and, and_true, reduceIte, nZ0, nZ1]
        refine hQ _ ?_
        · refine ⟨?_, by omega, by omega⟩; have e3 : v3 = v1 := (by omega); rw [← e3]; omega
      · rename_i hc6
        skip
        unfold w_X16_outputOf_9
        try simp only [forall_eq, rII, rIJ, rIP, rJJ, rJI, rJP, rPP, rPI, rPJ, g1, g2, g3, g4, g5, g6, g7, g8, Nat.reduceEqDiff, Nat.reduceAdd, false_and, and_false, true_and, and_true, reduceIte, nZ0, nZ1]
        refine ⟨ja, by exact hj, hja, ?_⟩
        refine ⟨by (first | omega | with_reducible assumption | (unfold rng; omega) | (unfold rng; (repeat' split) <;> omega) | grind), ?_⟩
        have q1 := rσ.2.2.1 ja 2 (v3.toNat); simp only [rgJ] at q1
        split
        · rename_i hc21
          skip
          unfold w_X16_outputOf_28
          try simp only [forall_eq, rII, rIJ, rIP, rJJ, rJI, rJP, rPP, rPI, rPJ, g1, g2, g3, g4, g5, g6, g7, g8, Nat.reduceEqDiff, Nat.reduceAdd, false_and, and_false, true_and, and_true, reduceIte, nZ0, nZ1]
          unfold w_X16_outputOf_29
          try simp only [forall_eq, rII, rIJ, rIP, rJJ, rJI, rJP, rPP, rPI, rPJ, g1, g2, g3, g4, g5, g6, g7, g8, Nat.reduceEqDiff, Nat.reduceAdd, false_and, and_false, true_and, and_true, reduceIte, nZ0, nZ1]
          refine ⟨by (first | omega | with_reducible assumption | (unfold rng; omega) | (unfold rng; (repeat' split) <;> omega) | grind), ?_⟩
          refine ⟨by (first | omega | with_reducible assumption | (unfold rng; omega) | (unfold rng; (repeat' split) <;> omega) | grind), ?_⟩
          refine ih4 _ _ ?_ ?_
          · first | (refine ⟨by omega, by omega, ?_, by omega, by omega⟩ <;> first | omega | exact cO_zero.symm | (rw [cO_succ (by omega)]; simp only [*]; (try simp) <;> omega) | grind [cO_succ])
          · (try simp only [rII, rIJ, rIP, rJJ, rJI, rJP, rPP, rPI, rPJ, g1, g2, g3, g4, g5, g6, g7, g8, Nat.reduceEqDiff, Nat.reduceAdd, false_and, and_false, true_and, and_true, reduceIte, nZ0, nZ1]) <;> (first | omega | with_reducible assumption | (unfold rng; omega) | (unfold rng; (repeat' split) <;> omega) | grind)
        · rename_i hc21
          skip
          unfold w_X16_outputOf_24
          try simp only [forall_eq, rII, rIJ, rIP, rJJ, rJI, rJP, rPP, rPI, rPJ, g1, g2, g3, g4, g5, g6, g7, g8, Nat.reduceEqDiff, Nat.reduceAdd, false_and, and_false, true_and, and_true, reduceIte, nZ0, nZ1]
          unfold w_X16_outputOf_29
          try simp only [forall_eq, rII, rIJ, rIP, rJJ, rJI, rJP, rPP, rPI, rPJ, g1, g2, g3, g4, g5, g6, g7, g8, Nat.reduceEqDiff, Nat.reduceAdd, false_and, and_false, true_and, and_true, reduceIte, nZ0, nZ1]
          refine ⟨by (first | omega | with_reducible assumption | (unfold rng; omega) | (unfold rng; (repeat' split) <;> omega) | grind), ?_⟩
          refine ⟨by (first | omega | with_reducible assumption | (unfold rng; omega) | (unfold rng; (repeat' split) <;> omega) | grind), ?_⟩
          refine ih4 _ _ ?_ ?_
          · first | (refine ⟨by omega, by omega, ?_, by omega, by omega⟩ <;> first | omega | exact cO_zero.symm | (rw [cO_succ (by omega)]; simp only [*]; (try simp) <;> omega) | grind [cO_succ])
          · (try simp only [rII, rIJ, rIP, rJJ, rJI, rJP, rPP, rPI, rPJ, g1, g2, g3, g4, g5, g6, g7, g8, Nat.reduceEqDiff, Nat.reduceAdd, false_and, and_false, true_and, and_true, reduceIte, nZ0, nZ1]) <;> (first | omega | with_reducible assumption | (unfold rng; omega) | (unfold rng; (repeat' split) <;> omega) | grind)
  refine ⟨_, L4 _ _ _ ?_ (Nat.lt_succ_self _)⟩
  · first | (refine ⟨by omega, by omega, ?_, by omega, by omega⟩ <;> first | omega | exact cO_zero.symm | (rw [cO_succ (by omega)]; simp only [*]; (try simp) <;> omega) | grind [cO_succ])
set_option maxHeartbeats 2000000 in
theorem s_X16_operatorOfOutput {ra : Nat → Nat} {jx : Nat → Nat → Nat} {rm : Nat} {ja : Nat} (g : Geo ra jx rm) {σ : Sg} {v1 : Int} (rσ : Rg ra jx rm σ) (hj : gP σ rm 17 = some ja) (hja : ja = ra 15 ∨ ja = ra 16) (h1 : 0 ≤ v1 ∧ v1 < gI σ ja 1) (hco : cO jx ja σ (gI σ ja 0) = gI σ ja 1 ∧ gI σ ja 1 ≤ 4 ∧ 1 ≤ gI σ ja 0 ∧ gI σ ja 0 ≤ 16) {Q : Sg → Int → Prop} {X : Sg → String → Prop} (hQ : ∀ (r : Int), (0 ≤ r ∧ r < gI σ ja 0) → Q σ r) : wp_X16_operatorOfOutput ra jx rm v1 σ Q X := by
  obtain ⟨g1, g2, g3, g4, g5, g6, g7, g8⟩ := id g
  have fσ : Fr ra jx rm [] [] σ σ := Fr.rf
  unfold wp_X16_operatorOfOutput
  unfold w_X16_operatorOfOutput_0
  try simp only [forall_eq, rII, rIJ, rIP, rJJ, rJI, rJP, rPP, rPI, rPJ, g1, g2, g3, g4, g5, g6, g7, g8, Nat.reduceEqDiff, Nat.reduceAdd, false_and, and_false, true_and, and_true, reduceIte, nZ0, nZ1]
  have L4 : ∀ (fu4 : Nat) (v2 : Int) (v3 : Int), (0 ≤ v2 ∧ 0 ≤ v3 ∧ v3 ≤ 4 ∧ v3 + cO jx ja σ v2 = v1 ∧ v2 < gI σ ja 0) → ((gI σ ja 0 - v2).toNat) < fu4 → wl_X16_operatorOfOutput_4 ra jx rm Q X fu4 σ v2 v3 := by
    intro fu4
    induction fu4 with
    | zero => intro  _ _ _ h9; omega
    | succ fu4 ih4 =>
      intro v2 v3 hi4 hm4
      unfold wl_X16_operatorOfOutput_4
      unfold w_X16_operatorOfOutput_4
      try simp only [forall_eq, rII, rIJ, rIP, rJJ, rJI, rJP, rPP, rPI, rPJ, g1, g2, g3, g4, g5, g6, g7, g8, Nat.reduceEqDiff, Nat.reduceAdd, false_and, and_false, true_and, and_true, reduceIte, nZ0, nZ1]
      have c2 := cO_succ (jx := jx) (ja := ja) (σ := σ) (n := v2) (by omega)
      refine ⟨ja, by exact hj, hja, ?_⟩
      refine ⟨by (first | omega | with_reducible assumption | (unfold rng; omega) | (unfold rng; (repeat' split) <;> omega) | grind), ?_⟩
      have q2 := rσ.2.2.1 ja 2 (v2.toNat); simp only [rgJ] at q2
      split
      · rename_i hc15
        skip
        unfold w_X16_operatorOfOutput_22
        try simp only [forall_eq, rII, rIJ, rIP, rJJ, rJI, rJP, rPP, rPI, rPJ, g1, g2, g3, g4, g5, g6, g7, g8, Nat.reduceEqDiff, Nat.reduceAdd, false_and, and_false, true_and, and_true, reduceIte, nZ0, nZ1]
        refine ⟨ja, by exact hj, hja, ?_⟩
        refine ⟨by (first | omega | with_reducible assumption | (unfold rng; omega) | (unfold rng; (repeat' split) <;> omega) | grind), ?_⟩
        rw [if_pos hc15]
        unfold w_X16_operatorOfOutput_41
        try simp only [forall_eq, rII, rIJ, rIP, rJJ, rJI, rJP, rPP, rPI, rPJ, g1, g2, g3, g4, g5, g6, g7, g8, Nat.reduceEqDiff, Nat.reduceAdd, false_and, and_false, true_and, and_true, reduceIte, nZ0, nZ1]
        unfold w_X16_operatorOfOutput_42
        try simp only [forall_eq, rII, rIJ, rIP, rJJ, rJI, rJP, rPP, rPI, rPJ, g1, g2, g3, g4, g5, g6, g7, g8, Nat.reduceEqDiff, Nat.reduceAdd, false_and, and_false, true_and, and_true, reduceIte, nZ0, nZ1]
        refine ⟨by (first | omega | with_reducible assumption | (unfold rng; omega) | (unfold rng; (repeat' split) <;> omega) | grind), ?_⟩
        refine ⟨by (first | omega | with_reducible assumption | (unfold rng; omega) | (unfold rng; (repeat' split) <;> omega) | grind), ?_⟩
        refine ih4 _ _ ?_ ?_
        · first | (refine ⟨by omega, by omega, by omega, ?_, by omega⟩; rw [cO_zero]; omega) | (refine ⟨by omega, by omega, by omega, by omega, ?_⟩; by_cases w9 : v2 + 1 < gI σ ja 0; exact w9; have m9 := cO_mono (jx := jx) (ja := ja) (σ := σ) (n := gI σ ja 0) (m := v2 + 1) (by omega) (by omega); omega)
        · (try simp only [rII, rIJ, rIP, rJJ, rJI, rJP, rPP, rPI, rPJ, g1, g2, g3, g4, g5, g6, g7, g8, Nat.reduceEqDiff, Nat.reduceAdd, false_and, and_false, true_and, and_true, reduceIte, nZ0, nZ1]) <;> (first | omega | with_reducible assumption | (unfold rng; omega) | (unfold rng; (repeat' split) <;> omega) | grind)
      · rename_i hc15
        skip
        unfold w_X16_operatorOfOutput_18
        try simp only [forall_eq, rII, rIJ, rIP, rJJ, rJI, rJP, rPP, rPI, rPJ, g1, g2, g3, g4, g5, g6, g7, g8, Nat.reduceEqDiff, Nat.reduceAdd, false_and, and_false, true_and, and_true, reduceIte, nZ0, nZ1]
        split
        · rename_i hc19
          skip
          unfold w_X16_operatorOfOutput_50
          try simp only [forall_eq, rII, rIJ, rIP, rJJ, rJI, rJP, rPP, rPI, rPJ, g1, g2, g3, g4, g5, g6, g7, g8, Nat.reduceEqDiff, Nat.reduceAdd, false_and, and_false, true_and, and_true, reduceIte, nZ0, nZ1]
          refine hQ _ ?_
          · (try simp only [rII, rIJ, rIP, rJJ, rJI, rJP, rPP, rPI, rPJ, g1, g2, g3, g4, g5, g6, g7, g8, Nat.reduceEqDiff, Nat.reduceAdd, false_and, and_false, true_and, and_true, reduceIte, nZ0, nZ1]) <;> (first | omega | with_reducible assumption | (unfold rng; omega) | (unfold rng; (repeat' split) <;> omega) | grind)
        · rename_i hc19
          skip
          unfold w_X16_operatorOfOutput_22
          try simp only [forall_eq, rII, rIJ, rIP, rJJ, rJI, rJP, rPP, rPI, rPJ, g1, g2, g3, g4, g5, g6, g7, g8, Nat.reduceEqDiff, Nat.reduceAdd, false_and, and_false, true_and, and_true, reduceIte, nZ0, nZ1]
          refine ⟨ja, by exact hj, hja, ?_⟩
          refine ⟨by (first | omega | with_reducible assumption | (unfold rng; omega) | (unfold rng; (repeat' split) <;> omega) | grind), ?_⟩
          rw [if_neg hc15]
          unfold w_X16_operatorOfOutput_37
          try simp only [forall_eq, rII, rIJ, rIP, rJJ, rJI, rJP, rPP, rPI, rPJ, g1, g2, g3, g4, g5, g6, g7, g8, Nat.reduceEqDiff, Nat.reduceAdd, false_and, and_false, true_and, and_true, reduceIte, nZ0, nZ1]
          unfold w_X16_operatorOfOutput_42
          try simp only [forall_eq, rII, rIJ, rIP, rJJ, rJI, rJP, rPP, rPI, rPJ, g1, g2, g3, g4, g5, g6, g7, g8, Nat.reduceEqDiff, Nat.reduceAdd, false_and, and_false, true_and, and_true, reduceIte, nZ0, nZ1]
          refine ⟨by (first | omega | with_reducible assumption | (unfold rng; omega) | (unfold rng; (repeat' split) <;> omega) | grind), ?_⟩
          refine ⟨by (first | omega | with_reducible assumption | (unfold rng; omega) | (unfold rng; (repeat' split) <;> omega) | grind), ?_⟩
          refine ih4 _ _ ?_ ?_
          · first | (refine ⟨by omega, by omega, by omega, ?_, by omega⟩; rw [cO_zero]; omega) | (refine ⟨by omega, by omega, by omega, by omega, ?_⟩; by_cases w9 : v2 + 1 < gI σ ja 0; exact w9; have m9 := cO_mono (jx := jx) (ja := ja) (σ := σ) (n := gI σ ja 0) (m := v2 + 1) (by omega) (by omega); omega)
          · (try simp only [rII, rIJ, rIP, rJJ, rJI, rJP, rPP, rPI, rPJ, g1, g2, g3, g4, g5, g6, g7, g8, Nat.reduceEqDiff, Nat.reduceAdd, false_and, and_false, true_and, and_true, reduceIte, nZ0, nZ1]) <;> (first | omega | with_reducible assumption | (unfold rng; omega) | (unfold rng; (repeat' split) <;> omega) | grind)
  refine ⟨_, L4 _ _ _ ?_ (Nat.lt_succ_self _)⟩
  · first | (refine ⟨by omega, by omega, by omega, ?_, by omega⟩; rw [cO_zero]; omega) | (refine ⟨by omega, by omega, by omega, by omega, ?_⟩; by_cases w9 : v2 + 1 < gI σ ja 0; exact w9; have m9 := cO_mono (jx := jx) (ja := ja) (σ := σ) (n := gI σ ja 0) (m := v2 + 1) (by omega) (by omega); omega)
set_option maxHeartbeats 2000000 in
theorem s_X16_visibleAt {ra : Nat → Nat} {jx : Nat → Nat → Nat} {rm : Nat} (g : Geo ra jx rm) {σ : Sg} {v1 : Int} {v2 : Int} (rσ : Rg ra jx rm σ) (hhe : HeE ra rm σ) (h1 : 0 ≤ v1 ∧ v1 < 4) (h2 : 0 ≤ v2 ∧ v2 < gI σ (ra 89) (3 * v1 + 2).toNat) {Q : Sg → Int → Prop} {X : Sg → String → Prop} (hQ : ∀ (r : Int), (0 ≤ r ∧ r < 2000) → Q σ r) : wp_X16_visibleAt ra jx rm v1 v2 σ Q X := by
  obtain ⟨g1, g2, g3, g4, g5, g6, g7, g8⟩ := id g
  have fσ : Fr ra jx rm [] [] σ σ := Fr.rf
  obtain ⟨own, ps, mn, la, hG, hA⟩ := id hhe
  have hA1 := (hA (3 * v1 + 2) (by omega)).1
  have hls := hG.ls (T := 3 * v1 + 2) (by omega)
  clear hA
  have q99 := rσ.1 89 (3 * v1 + 2).toNat; simp only [rgT] at q99
  unfold wp_X16_visibleAt
  unfold w_X16_visibleAt_0
  try simp only [forall_eq, rII, rIJ, rIP, rJJ, rJI, rJP, rPP, rPI, rPJ, g1, g2, g3, g4, g5, g6, g7, g8, Nat.reduceEqDiff, Nat.reduceAdd, false_and, and_false, true_and, and_true, reduceIte, nZ0, nZ1]
  refine ⟨by (first | omega | with_reducible assumption | (unfold rng; omega) | (unfold rng; (repeat' split) <;> omega) | grind), ?_⟩
  refine ⟨by (first | omega | with_reducible assumption | (unfold rng; omega) | (unfold rng; (repeat' split) <;> omega) | grind), ?_⟩
  refine ⟨by (first | omega | with_reducible assumption | (unfold rng; omega) | (unfold rng; (repeat' split) <;> omega) | grind), ?_⟩
  have q1 := rσ.1 87 (((3 * v1) + 2).toNat); simp only [rgT] at q1
  have L14 : ∀ (fu14 : Nat) (v3 : Int) (v4 : Int), (0 ≤ v4 ∧ v4 ≤ v2 ∧ own v3 = 3 * v1 + 2 ∧ ps v3 = v4) → ((v2 - v4).toNat) < fu14 → wl_X16_visibleAt_14 ra jx rm Q X fu14 σ v2 v3 v4 := by
    intro fu14
    induction fu14 with
    | zero => intro  _ _ _ h9; omega
    | succ fu14 ih14 =>
      intro v3 v4 hi14 hm14
      unfold wl_X16_visibleAt_14
      unfold w_X16_visibleAt_14
      try simp only [forall_eq, rII, rIJ, rIP, rJJ, rJI, rJP, rPP, rPI, rPJ, g1, g2, g3, g4, g5, g6, g7, g8, Nat.reduceEqDiff, Nat.reduceAdd, false_and, and_false, true_and, and_true, reduceIte, nZ0, nZ1]
      have n3 := hG.nd hi14.2.2.1 (by omega)
      have n31 := n3.1; have n32 := n3.2.1; have n33 := n3.2.2.1; have n34 := n3.2.2.2
      split
      · rename_i hc17
        skip
        unfold w_X16_visibleAt_33
        try simp only [forall_eq, rII, rIJ, rIP, rJJ, rJI, rJP, rPP, rPI, rPJ, g1, g2, g3, g4, g5, g6, g7, g8, Nat.reduceEqDiff, Nat.reduceAdd, false_and, and_false, true_and, and_true, reduceIte, nZ0, nZ1]
        refine hQ _ ?_
        · (try simp only [rII, rIJ, rIP, rJJ, rJI, rJP, rPP, rPI, rPJ, g1, g2, g3, g4, g5, g6, g7, g8, Nat.reduceEqDiff, Nat.reduceAdd, false_and, and_false, true_and, and_true, reduceIte, nZ0, nZ1]) <;> (first | omega | with_reducible assumption | (unfold rng; omega) | (unfold rng; (repeat' split) <;> omega) | grind)
      · rename_i hc17
        skip
        unfold w_X16_visibleAt_20
        try simp only [forall_eq, rII, rIJ, rIP, rJJ, rJI, rJP, rPP, rPI, rPJ, g1, g2, g3, g4, g5, g6, g7, g8, Nat.reduceEqDiff, Nat.reduceAdd, false_and, and_false, true_and, and_true, reduceIte, nZ0, nZ1]
        refine ⟨by (first | omega | with_reducible assumption | (unfold rng; omega) | (unfold rng; (repeat' split) <;> omega) | grind), ?_⟩
        refine ⟨by (first | omega | with_reducible assumption | (unfold rng; omega) | (unfold rng; (repeat' split) <;> omega) | grind), ?_⟩
        have q2 := rσ.1 86 (v3.toNat); simp only [rgT] at q2
        refine ih14 _ _ ?_ ?_
        · (try simp only [rII, rIJ, rIP, rJJ, rJI, rJP, rPP, rPI, rPJ, g1, g2, g3, g4, g5, g6, g7, g8, Nat.reduceEqDiff, Nat.reduceAdd, false_and, and_false, true_and, and_true, reduceIte, nZ0, nZ1]) <;> (first | omega | with_reducible assumption | (unfold rng; omega) | (unfold rng; (repeat' split) <;> omega) | grind)
        · (try simp only [rII, rIJ, rIP, rJJ, rJI, rJP, rPP, rPI, rPJ, g1, g2, g3, g4, g5, g6, g7, g8, Nat.reduceEqDiff, Nat.reduceAdd, false_and, and_false, true_and, and_true, reduceIte, nZ0, nZ1]) <;> (first | omega | with_reducible assumption | (unfold rng; omega) | (unfold rng; (repeat' split) <;> omega) | grind)
  refine ⟨_, L14 _ _ _ ?_ (Nat.lt_succ_self _)⟩
  · (try simp only [rII, rIJ, rIP, rJJ, rJI, rJP, rPP, rPI, rPJ, g1, g2, g3, g4, g5, g6, g7, g8, Nat.reduceEqDiff, Nat.reduceAdd, false_and, and_false, true_and, and_true, reduceIte, nZ0, nZ1]) <;> (first | omega | with_reducible assumption | (unfold rng; omega) | (unfold rng; (repeat' split) <;> omega) | grind)
set_option maxHeartbeats 4000000 in
theorem s_X16_row {ra : Nat → Nat} {jx : Nat → Nat → Nat} {rm : Nat} {ja : Nat} (g : Geo ra jx rm) {σ : Sg} {v1 : Int} {v2 : Int} {v3 : Int} (rσ : Rg ra jx rm σ) (hj : gP σ rm 17 = none ∨ gP σ rm 17 = some ja) (hja : ja = ra 15 ∨ ja = ra 16) (hn : 0 ≤ gI σ ja 0 ∧ gI σ ja 0 ≤ 16) (hno : 0 ≤ gI σ ja 1 ∧ gI σ ja 1 ≤ 4) (hco : cO jx ja σ (gI σ ja 0) = gI σ ja 1 ∧ gI σ ja 1 ≤ 4 ∧ 1 ≤ gI σ ja 0 ∧ gI σ ja 0 ≤ 16) (hhe : HeE ra rm σ) (b1 : -2147483648 ≤ v1 ∧ v1 ≤ 2147483647) (b2 : -2147483648 ≤ v2 ∧ v2 ≤ 2147483647) (b3 : -2147483648 ≤ v3 ∧ v3 ≤ 2147483647) {Q : Sg → Int64 → Prop} {X : Sg → String → Prop} (hQ : ∀ (σ' : Sg) (r : Int64), Rg ra jx rm σ' → Fr ra jx rm [] [0] σ σ' → (True) → Q σ' r) : wp_X16_row ra jx rm v1 v2 v3 σ Q X := by
  obtain ⟨g1, g2, g3, g4, g5, g6, g7, g8⟩ := id g
  have fσ : Fr ra jx rm [] [0] σ σ := Fr.rf
  unfold wp_X16_row
  unfold w_X16_row_0
  try simp only [forall_eq, rII, rIJ, rIP, rJJ, rJI, rJP, rPP, rPI, rPJ, g1, g2, g3, g4, g5, g6, g7, g8, Nat.reduceEqDiff, Nat.reduceAdd, false_and, and_false, true_and, and_true, reduceIte, nZ0, nZ1]
  refine s_X16_isOutput g rσ (by exact hj) hja (by exact hno) (by (try simp only [rII, rIJ, rIP, rJJ, rJI, rJP, rPP, rPI, rPJ, g1, g2, g3, g4, g5, g6, g7, g8, Nat.reduceEqDiff, Nat.reduceAdd, false_and, and_false, true_and, and_true, reduceIte, nZ0, nZ1]) <;> (first | omega | with_reducible assumption | (unfold rng; omega) | (unfold rng; (repeat' split) <;> omega) | grind)) (fun r26 p1 => ?_)
  try simp only [forall_eq, rII, rIJ, rIP, rJJ, rJI, rJP, rPP, rPI, rPJ, g1, g2, g3, g4, g5, g6, g7, g8, Nat.reduceEqDiff, Nat.reduceAdd, false_and, and_false, true_and, and_true, reduceIte, nZ0, nZ1]
  split
  · rename_i hc6
    skip
    unfold w_X16_row_62
    try simp only [forall_eq, rII, rIJ, rIP, rJJ, rJI, rJP, rPP, rPI, rPJ, g1, g2, g3, g4, g5, g6, g7, g8, Nat.reduceEqDiff, Nat.reduceAdd, false_and, and_false, true_and, and_true, reduceIte, nZ0, nZ1]
    unfold w_X16_row_63
    try simp only [forall_eq, rII, rIJ, rIP, rJJ, rJI, rJP, rPP, rPI, rPJ, g1, g2, g3, g4, g5, g6, g7, g8, Nat.reduceEqDiff, Nat.reduceAdd, false_and, and_false, true_and, and_true, reduceIte, nZ0, nZ1]
    try rw [if_neg (by decide)]
    unfold w_X16_row_73
    try simp only [forall_eq, rII, rIJ, rIP, rJJ, rJI, rJP, rPP, rPI, rPJ, g1, g2, g3, g4, g5, g6, g7, g8, Nat.reduceEqDiff, Nat.reduceAdd, false_and, and_false, true_and, and_true, reduceIte, nZ0, nZ1]
    refine hQ _ _ ?_ ?_ ?_
    · refine Rg.sI g ?_ (by simp only [rgS]; first | with_reducible exact nZ_rng _ | with_reducible exact nB_rng _ | with_reducible exact wr_rng _ | with_reducible exact i32any _ | (first | omega | with_reducible assumption | (unfold rng; omega) | (unfold rng; (repeat' split) <;> omega) | grind)); exact rσ
    · refine Fr.sI g ?_ (by decide); exact fσ
    · exact trivial
  · rename_i hc6
    skip
    unfold w_X16_row_9
    try simp only [forall_eq, rII, rIJ, rIP, rJJ, rJI, rJP, rPP, rPI, rPJ, g1, g2, g3, g4, g5, g6, g7, g8, Nat.reduceEqDiff, Nat.reduceAdd, false_and, and_false, true_and, and_true, reduceIte, nZ0, nZ1]
    refine ⟨by (first | omega | with_reducible assumption | (unfold rng; omega) | (unfold rng; (repeat' split) <;> omega) | grind), ?_⟩
    refine ⟨by (first | omega | with_reducible assumption | (unfold rng; omega) | (unfold rng; (repeat' split) <;> omega) | grind), ?_⟩
    refine ⟨by (first | omega | with_reducible assumption | (unfold rng; omega) | (unfold rng; (repeat' split) <;> omega) | grind), ?_⟩
    have q2 := rσ.1 89 (((3 * v1) + 2).toNat); simp only [rgT] at q2
    refine ⟨by (first | omega | with_reducible assumption | (unfold rng; omega) | (unfold rng; (repeat' split) <;> omega) | grind), ?_⟩
    refine s_X16_within g rσ (fun r29 p3 => ?_)
    obtain ⟨p3, p3b⟩ := p3
    have p3w : r29 = 1 → 0 ≤ v2 ∧ v2 ≤ ((gI σ (ra 89) ((3 * v1) + 2).toNat) - 1) := fun e => win2 (by (first | omega | with_reducible assumption | (unfold rng; omega) | (unfold rng; (repeat' split) <;> omega) | grind)) (by (first | omega | with_reducible assumption | (unfold rng; omega) | (unfold rng; (repeat' split) <;> omega) | grind)) (by (first | omega | with_reducible assumption | (unfold rng; omega) | (unfold rng; (repeat' split) <;> omega) | grind)) (p3b e)
    try simp only [forall_eq, rII, rIJ, rIP, rJJ, rJI, rJP, rPP, rPI, rPJ, g1, g2, g3, g4, g5, g6, g7, g8, Nat.reduceEqDiff, Nat.reduceAdd, false_and, and_false, true_and, and_true, reduceIte, nZ0, nZ1]
    split
    · rename_i hc28
      skip
      unfold w_X16_row_62
      try simp only [forall_eq, rII, rIJ, rIP, rJJ, rJI, rJP, rPP, rPI, rPJ, g1, g2, g3, g4, g5, g6, g7, g8, Nat.reduceEqDiff, Nat.reduceAdd, false_and, and_false, true_and, and_true, reduceIte, nZ0, nZ1]
      unfold w_X16_row_63
      try simp only [forall_eq, rII, rIJ, rIP, rJJ, rJI, rJP, rPP, rPI, rPJ, g1, g2, g3, g4, g5, g6, g7, g8, Nat.reduceEqDiff, Nat.reduceAdd, false_and, and_false, true_and, and_true, reduceIte, nZ0, nZ1]
      try rw [if_neg (by decide)]
      unfold w_X16_row_73
      try simp only [forall_eq, rII, rIJ, rIP, rJJ, rJI, rJP, rPP, rPI, rPJ, g1, g2, g3, g4, g5, g6, g7, g8, Nat.reduceEqDiff, Nat.reduceAdd, false_and, and_false, true_and, and_true, reduceIte, nZ0, nZ1]
      refine hQ _ _ ?_ ?_ ?_
      · refine Rg.sI g ?_ (by simp only [rgS]; first | with_reducible exact nZ_rng _ | with_reducible exact nB_rng _ | with_reducible exact wr_rng _ | with_reducible exact i32any _ | (first | omega | with_reducible assumption | (unfold rng; omega) | (unfold rng; (repeat' split) <;> omega) | grind)); exact rσ
      · refine Fr.sI g ?_ (by decide); exact fσ
      · exact trivial
    · rename_i hc28
      skip
      unfold w_X16_row_31
      try simp only [forall_eq, rII, rIJ, rIP, rJJ, rJI, rJP, rPP, rPI, rPJ, g1, g2, g3, g4, g5, g6, g7, g8, Nat.reduceEqDiff, Nat.reduceAdd, false_and, and_false, true_and, and_true, reduceIte, nZ0, nZ1]
      refine ⟨ja, by first | exact hj.resolve_left (by assumption) | grind, hja, ?_⟩
      refine s_X16_operatorOfOutput g rσ (by grind) hja (by (try simp only [rII, rIJ, rIP, rJJ, rJI, rJP, rPP, rPI, rPJ, g1, g2, g3, g4, g5, g6, g7, g8, Nat.reduceEqDiff, Nat.reduceAdd, false_and, and_false, true_and, and_true, reduceIte, nZ0, nZ1]) <;> (first | omega | with_reducible assumption | (unfold rng; omega) | (unfold rng; (repeat' split) <;> omega) | grind)) (by exact hco) (fun r33 p4 => ?_)
      try simp only [forall_eq, rII, rIJ, rIP, rJJ, rJI, rJP, rPP, rPI, rPJ, g1, g2, g3, g4, g5, g6, g7, g8, Nat.reduceEqDiff, Nat.reduceAdd, false_and, and_false, true_and, and_true, reduceIte, nZ0, nZ1]
      refine ⟨by (first | omega | with_reducible assumption | (unfold rng; omega) | (unfold rng; (repeat' split) <;> omega) | grind), ?_⟩
      have q5 := rσ.2.2.1 ja 6 (r33.toNat); simp only [rgJ] at q5
      refine ⟨by (first | omega | with_reducible assumption | (unfold rng; omega) | (unfold rng; (repeat' split) <;> omega) | grind), ?_⟩
      refine s_X16_within g rσ (fun r35 p6 => ?_)
      obtain ⟨p6, p6b⟩ := p6
      have p6w : r35 = 1 → (-1) ≤ v3 ∧ v3 ≤ ((gI σ (jx ja 6) r33.toNat) - 1) := fun e => win2 (by (first | omega | with_reducible assumption | (unfold rng; omega) | (unfold rng; (repeat' split) <;> omega) | grind)) (by (first | omega | with_reducible assumption | (unfold rng; omega) | (unfold rng; (repeat' split) <;> omega) | grind)) (by (first | omega | with_reducible assumption | (unfold rng; omega) | (unfold rng; (repeat' split) <;> omega) | grind)) (p6b e)
      try simp only [forall_eq, rII, rIJ, rIP, rJJ, rJI, rJP, rPP, rPI, rPJ, g1, g2, g3, g4, g5, g6, g7, g8, Nat.reduceEqDiff, Nat.reduceAdd, false_and, and_false, true_and, and_true, reduceIte, nZ0, nZ1]
      split
      · rename_i hc55
        skip
        unfold w_X16_row_62
        try simp only [forall_eq, rII, rIJ, rIP, rJJ, rJI, rJP, rPP, rPI, rPJ, g1, g2, g3, g4, g5, g6, g7, g8, Nat.reduceEqDiff, Nat.reduceAdd, false_and, and_false, true_and, and_true, reduceIte, nZ0, nZ1]
        unfold w_X16_row_63
        try simp only [forall_eq, rII, rIJ, rIP, rJJ, rJI, rJP, rPP, rPI, rPJ, g1, g2, g3, g4, g5, g6, g7, g8, Nat.reduceEqDiff, Nat.reduceAdd, false_and, and_false, true_and, and_true, reduceIte, nZ0, nZ1]
        try rw [if_neg (by decide)]
        unfold w_X16_row_73
        try simp only [forall_eq, rII, rIJ, rIP, rJJ, rJI, rJP, rPP, rPI, rPJ, g1, g2, g3, g4, g5, g6, g7, g8, Nat.reduceEqDiff, Nat.reduceAdd, false_and, and_false, true_and, and_true, reduceIte, nZ0, nZ1]
        refine hQ _ _ ?_ ?_ ?_
        · refine Rg.sI g ?_ (by simp only [rgS]; first | with_reducible exact nZ_rng _ | with_reducible exact nB_rng _ | with_reducible exact wr_rng _ | with_reducible exact i32any _ | (first | omega | with_reducible assumption | (unfold rng; omega) | (unfold rng; (repeat' split) <;> omega) | grind)); exact rσ
        · refine Fr.sI g ?_ (by decide); exact fσ
        · exact trivial
      · rename_i hc55
        skip
        unfold w_X16_row_58
        try simp only [forall_eq, rII, rIJ, rIP, rJJ, rJI, rJP, rPP, rPI, rPJ, g1, g2, g3, g4, g5, g6, g7, g8, Nat.reduceEqDiff, Nat.reduceAdd, false_and, and_false, true_and, and_true, reduceIte, nZ0, nZ1]
        unfold w_X16_row_63
        try simp only [forall_eq, rII, rIJ, rIP, rJJ, rJI, rJP, rPP, rPI, rPJ, g1, g2, g3, g4, g5, g6, g7, g8, Nat.reduceEqDiff, Nat.reduceAdd, false_and, and_false, true_and, and_true, reduceIte, nZ0, nZ1]
        try rw [if_pos (by decide)]
        unfold w_X16_row_75
        try simp only [forall_eq, rII, rIJ, rIP, rJJ, rJI, rJP, rPP, rPI, rPJ, g1, g2, g3, g4, g5, g6, g7, g8, Nat.reduceEqDiff, Nat.reduceAdd, false_and, and_false, true_and, and_true, reduceIte, nZ0, nZ1]
        refine s_X16_visibleAt g (by refine Rg.sI g ?_ (by simp only [rgS]; first | with_reducible exact nZ_rng _ | with_reducible exact nB_rng _ | with_reducible exact wr_rng _ | with_reducible exact i32any _ | (first | omega | with_reducible assumption | (unfold rng; omega) | (unfold rng; (repeat' split) <;> omega) | grind)); exact rσ) (HeE.fr (jx := jx) (K := []) (S := [0]) hhe (by repeat (first | exact Fr.rf | assumption | refine Fr.aJ g ?_ (by decide) | refine Fr.aI g ?_ (by decide) | refine Fr.sI g ?_ (by decide) | refine Fr.sJ g ?_ (by decide))) (by decide) (by decide)) (by (try simp only [rII, rIJ, rIP, rJJ, rJI, rJP, rPP, rPI, rPJ, g1, g2, g3, g4, g5, g6, g7, g8, Nat.reduceEqDiff, Nat.reduceAdd, false_and, and_false, true_and, and_true, reduceIte, nZ0, nZ1]) <;> (first | omega | with_reducible assumption | (unfold rng; omega) | (unfold rng; (repeat' split) <;> omega) | grind)) (by (try simp only [rII, rIJ, rIP, rJJ, rJI, rJP, rPP, rPI, rPJ, g1, g2, g3, g4, g5, g6, g7, g8, Nat.reduceEqDiff, Nat.reduceAdd, false_and, and_false, true_and, and_true, reduceIte, nZ0, nZ1]) <;> (first | omega | with_reducible assumption | (unfold rng; omega) | (unfold rng; (repeat' split) <;> omega) | grind)) (fun r39 p7 => ?_)
        try simp only [forall_eq, rII, rIJ, rIP, rJJ, rJI, rJP, rPP, rPI, rPJ, g1, g2, g3, g4, g5, g6, g7, g8, Nat.reduceEqDiff, Nat.reduceAdd, false_and, and_false, true_and, and_true, reduceIte, nZ0, nZ1]
        split
        · rename_i hc85
          skip
          unfold w_X16_row_98
          try simp only [forall_eq, rII, rIJ, rIP, rJJ, rJI, rJP, rPP, rPI, rPJ, g1, g2, g3, g4, g5, g6, g7, g8, Nat.reduceEqDiff, Nat.reduceAdd, false_and, and_false, true_and, and_true, reduceIte, nZ0, nZ1]
          refine ⟨by (first | omega | with_reducible assumption | (unfold rng; omega) | (unfold rng; (repeat' split) <;> omega) | grind), ?_⟩
          refine ⟨by (first | omega | with_reducible assumption | (unfold rng; omega) | (unfold rng; (repeat' split) <;> omega) | grind), ?_⟩
          refine ⟨by (first | omega | with_reducible assumption | (unfold rng; omega) | (unfold rng; (repeat' split) <;> omega) | grind), ?_⟩
          unfold w_X16_row_110
          try simp only [forall_eq, rII, rIJ, rIP, rJJ, rJI, rJP, rPP, rPI, rPJ, g1, g2, g3, g4, g5, g6, g7, g8, Nat.reduceEqDiff, Nat.reduceAdd, false_and, and_false, true_and, and_true, reduceIte, nZ0, nZ1]
          refine hQ _ _ ?_ ?_ ?_
          · refine Rg.sI g ?_ (by simp only [rgS]; first | with_reducible exact nZ_rng _ | with_reducible exact nB_rng _ | with_reducible exact wr_rng _ | with_reducible exact i32any _ | (first | omega | with_reducible assumption | (unfold rng; omega) | (unfold rng; (repeat' split) <;> omega) | grind)); exact rσ
          · refine Fr.sI g ?_ (by decide); exact fσ
          · exact trivial
        · rename_i hc85
          skip
          unfold w_X16_row_88
          try simp only [forall_eq, rII, rIJ, rIP, rJJ, rJI, rJP, rPP, rPI, rPJ, g1, g2, g3, g4, g5, g6, g7, g8, Nat.reduceEqDiff, Nat.reduceAdd, false_and, and_false, true_and, and_true, reduceIte, nZ0, nZ1]
          refine ⟨by (first | omega | with_reducible assumption | (unfold rng; omega) | (unfold rng; (repeat' split) <;> omega) | grind), ?_⟩
          unfold w_X16_row_110
          try simp only [forall_eq, rII, rIJ, rIP, rJJ, rJI, rJP, rPP, rPI, rPJ, g1, g2, g3, g4, g5, g6, g7, g8, Nat.reduceEqDiff, Nat.reduceAdd, false_and, and_false, true_and, and_true, reduceIte, nZ0, nZ1]
          refine hQ _ _ ?_ ?_ ?_
          · refine Rg.sI g ?_ (by simp only [rgS]; first | with_reducible exact nZ_rng _ | with_reducible exact nB_rng _ | with_reducible exact wr_rng _ | with_reducible exact i32any _ | (first | omega | with_reducible assumption | (unfold rng; omega) | (unfold rng; (repeat' split) <;> omega) | grind)); exact rσ
          · refine Fr.sI g ?_ (by decide); exact fσ
          · exact trivial
set_option maxHeartbeats 4000000 in
theorem s_X16_lineage {ra : Nat → Nat} {jx : Nat → Nat → Nat} {rm : Nat} {ja : Nat} (g : Geo ra jx rm) {σ : Sg} {v1 : Int} {v2 : Int} {v3 : Int} (rσ : Rg ra jx rm σ) (hj : gP σ rm 17 = none ∨ gP σ rm 17 = some ja) (hja : ja = ra 15 ∨ ja = ra 16) (hn : 0 ≤ gI σ ja 0 ∧ gI σ ja 0 ≤ 16) (hno : 0 ≤ gI σ ja 1 ∧ gI σ ja 1 ≤ 4) (hhe : HeE ra rm σ) (b1 : -2147483648 ≤ v1 ∧ v1 ≤ 2147483647) (b2 : -2147483648 ≤ v2 ∧ v2 ≤ 2147483647) (b3 : -2147483648 ≤ v3 ∧ v3 ≤ 2147483647) {Q : Sg → Int → Prop} {X : Sg → String → Prop} (hQ : ∀ (σ' : Sg) (r : Int), Rg ra jx rm σ' → Fr ra jx rm [] [0] σ σ' → (True) → Q σ' r) : wp_X16_lineage ra jx rm v1 v2 v3 σ Q X := by
  obtain ⟨g1, g2, g3, g4, g5, g6, g7, g8⟩ := id g
  have fσ : Fr ra jx rm [] [0] σ σ := Fr.rf
  unfold wp_X16_lineage
  unfold w_X16_lineage_0
  try simp only [forall_eq, rII, rIJ, rIP, rJJ, rJI, rJP, rPP, rPI, rPJ, g1, g2, g3, g4, g5, g6, g7, g8, Nat.reduceEqDiff, Nat.reduceAdd, false_and, and_false, true_and, and_true, reduceIte, nZ0, nZ1]
  refine s_X16_isOutput g rσ (by exact hj) hja (by exact hno) (by (try simp only [rII, rIJ, rIP, rJJ, rJI, rJP, rPP, rPI, rPJ, g1, g2, g3, g4, g5, g6, g7, g8, Nat.reduceEqDiff, Nat.reduceAdd, false_and, and_false, true_and, and_true, reduceIte, nZ0, nZ1]) <;> (first | omega | with_reducible assumption | (unfold rng; omega) | (unfold rng; (repeat' split) <;> omega) | grind)) (fun r18 p1 => ?_)
  try simp only [forall_eq, rII, rIJ, rIP, rJJ, rJI, rJP, rPP, rPI, rPJ, g1, g2, g3, g4, g5, g6, g7, g8, Nat.reduceEqDiff, Nat.reduceAdd, false_and, and_false, true_and, and_true, reduceIte, nZ0, nZ1]
  split
  · rename_i hc6
    skip
    unfold w_X16_lineage_35
    try simp only [forall_eq, rII, rIJ, rIP, rJJ, rJI, rJP, rPP, rPI, rPJ, g1, g2, g3, g4, g5, g6, g7, g8, Nat.reduceEqDiff, Nat.reduceAdd, false_and, and_false, true_and, and_true, reduceIte, nZ0, nZ1]
    unfold w_X16_lineage_36
    try simp only [forall_eq, rII, rIJ, rIP, rJJ, rJI, rJP, rPP, rPI, rPJ, g1, g2, g3, g4, g5, g6, g7, g8, Nat.reduceEqDiff, Nat.reduceAdd, false_and, and_false, true_and, and_true, reduceIte, nZ0, nZ1]
    try rw [if_neg (by decide)]
    unfold w_X16_lineage_46
    try simp only [forall_eq, rII, rIJ, rIP, rJJ, rJI, rJP, rPP, rPI, rPJ, g1, g2, g3, g4, g5, g6, g7, g8, Nat.reduceEqDiff, Nat.reduceAdd, false_and, and_false, true_and, and_true, reduceIte, nZ0, nZ1]
    refine hQ _ _ ?_ ?_ ?_
    · refine Rg.sI g ?_ (by simp only [rgS]; first | with_reducible exact nZ_rng _ | with_reducible exact nB_rng _ | with_reducible exact wr_rng _ | with_reducible exact i32any _ | (first | omega | with_reducible assumption | (unfold rng; omega) | (unfold rng; (repeat' split) <;> omega) | grind)); exact rσ
    · refine Fr.sI g ?_ (by decide); exact fσ
    · exact trivial
  · rename_i hc6
    skip
    unfold w_X16_lineage_9
    try simp only [forall_eq, rII, rIJ, rIP, rJJ, rJI, rJP, rPP, rPI, rPJ, g1, g2, g3, g4, g5, g6, g7, g8, Nat.reduceEqDiff, Nat.reduceAdd, false_and, and_false, true_and, and_true, reduceIte, nZ0, nZ1]
    refine ⟨by (first | omega | with_reducible assumption | (unfold rng; omega) | (unfold rng; (repeat' split) <;> omega) | grind), ?_⟩
    refine ⟨by (first | omega | with_reducible assumption | (unfold rng; omega) | (unfold rng; (repeat' split) <;> omega) | grind), ?_⟩
    refine ⟨by (first | omega | with_reducible assumption | (unfold rng; omega) | (unfold rng; (repeat' split) <;> omega) | grind), ?_⟩
    have q2 := rσ.1 89 (((3 * v1) + 2).toNat); simp only [rgT] at q2
    refine ⟨by (first | omega | with_reducible assumption | (unfold rng; omega) | (unfold rng; (repeat' split) <;> omega) | grind), ?_⟩
    refine s_X16_within g rσ (fun r21 p3 => ?_)
    obtain ⟨p3, p3b⟩ := p3
    have p3w : r21 = 1 → 0 ≤ v2 ∧ v2 ≤ ((gI σ (ra 89) ((3 * v1) + 2).toNat) - 1) := fun e => win2 (by (first | omega | with_reducible assumption | (unfold rng; omega) | (unfold rng; (repeat' split) <;> omega) | grind)) (by (first | omega | with_reducible assumption | (unfold rng; omega) | (unfold rng; (repeat' split) <;> omega) | grind)) (by (first | omega | with_reducible assumption | (unfold rng; omega) | (unfold rng; (repeat' split) <;> omega) | grind)) (p3b e)
    try simp only [forall_eq, rII, rIJ, rIP, rJJ, rJI, rJP, rPP, rPI, rPJ, g1, g2, g3, g4, g5, g6, g7, g8, Nat.reduceEqDiff, Nat.reduceAdd, false_and, and_false, true_and, and_true, reduceIte, nZ0, nZ1]
    split
    · rename_i hc28
      skip
      unfold w_X16_lineage_35
      try simp only [forall_eq, rII, rIJ, rIP, rJJ, rJI, rJP, rPP, rPI, rPJ, g1, g2, g3, g4, g5, g6, g7, g8, Nat.reduceEqDiff, Nat.reduceAdd, false_and, and_false, true_and, and_true, reduceIte, nZ0, nZ1]
      unfold w_X16_lineage_36
      try simp only [forall_eq, rII, rIJ, rIP, rJJ, rJI, rJP, rPP, rPI, rPJ, g1, g2, g3, g4, g5, g6, g7, g8, Nat.reduceEqDiff, Nat.reduceAdd, false_and, and_false, true_and, and_true, reduceIte, nZ0, nZ1]
      try rw [if_neg (by decide)]
      unfold w_X16_lineage_46
      try simp only [forall_eq, rII, rIJ, rIP, rJJ, rJI, rJP, rPP, rPI, rPJ, g1, g2, g3, g4, g5, g6, g7, g8, Nat.reduceEqDiff, Nat.reduceAdd, false_and, and_false, true_and, and_true, reduceIte, nZ0, nZ1]
      refine hQ _ _ ?_ ?_ ?_
      · refine Rg.sI g ?_ (by simp only [rgS]; first | with_reducible exact nZ_rng _ | with_reducible exact nB_rng _ | with_reducible exact wr_rng _ | with_reducible exact i32any _ | (first | omega | with_reducible assumption | (unfold rng; omega) | (unfold rng; (repeat' split) <;> omega) | grind)); exact rσ
      · refine Fr.sI g ?_ (by decide); exact fσ
      · exact trivial
    · rename_i hc28
      skip
      unfold w_X16_lineage_31
      try simp only [forall_eq, rII, rIJ, rIP, rJJ, rJI, rJP, rPP, rPI, rPJ, g1, g2, g3, g4, g5, g6, g7, g8, Nat.reduceEqDiff, Nat.reduceAdd, false_and, and_false, true_and, and_true, reduceIte, nZ0, nZ1]
      unfold w_X16_lineage_36
      try simp only [forall_eq, rII, rIJ, rIP, rJJ, rJI, rJP, rPP, rPI, rPJ, g1, g2, g3, g4, g5, g6, g7, g8, Nat.reduceEqDiff, Nat.reduceAdd, false_and, and_false, true_and, and_true, reduceIte, nZ0, nZ1]
      try rw [if_pos (by decide)]
      unfold w_X16_lineage_48
      try simp only [forall_eq, rII, rIJ, rIP, rJJ, rJI, rJP, rPP, rPI, rPJ, g1, g2, g3, g4, g5, g6, g7, g8, Nat.reduceEqDiff, Nat.reduceAdd, false_and, and_false, true_and, and_true, reduceIte, nZ0, nZ1]
      refine s_X16_visibleAt g (by refine Rg.sI g ?_ (by simp only [rgS]; first | with_reducible exact nZ_rng _ | with_reducible exact nB_rng _ | with_reducible exact wr_rng _ | with_reducible exact i32any _ | (first | omega | with_reducible assumption | (unfold rng; omega) | (unfold rng; (repeat' split) <;> omega) | grind)); exact rσ) (HeE.fr (jx := jx) (K := []) (S := [0]) hhe (by repeat (first | exact Fr.rf | assumption | refine Fr.aJ g ?_ (by decide) | refine Fr.aI g ?_ (by decide) | refine Fr.sI g ?_ (by decide) | refine Fr.sJ g ?_ (by decide))) (by decide) (by decide)) (by (try simp only [rII, rIJ, rIP, rJJ, rJI, rJP, rPP, rPI, rPJ, g1, g2, g3, g4, g5, g6, g7, g8, Nat.reduceEqDiff, Nat.reduceAdd, false_and, and_false, true_and, and_true, reduceIte, nZ0, nZ1]) <;> (first | omega | with_reducible assumption | (unfold rng; omega) | (unfold rng; (repeat' split) <;> omega) | grind)) (by (try simp only [rII, rIJ, rIP, rJJ, rJI, rJP, rPP, rPI, rPJ, g1, g2, g3, g4, g5, g6, g7, g8, Nat.reduceEqDiff, Nat.reduceAdd, false_and, and_false, true_and, and_true, reduceIte, nZ0, nZ1]) <;> (first | omega | with_reducible assumption | (unfold rng; omega) | (unfold rng; (repeat' split) <;> omega) | grind)) (fun r25 p4 => ?_)
      try simp only [forall_eq, rII, rIJ, rIP, rJJ, rJI, rJP, rPP, rPI, rPJ, g1, g2, g3, g4, g5, g6, g7, g8, Nat.reduceEqDiff, Nat.reduceAdd, false_and, and_false, true_and, and_true, reduceIte, nZ0, nZ1]
      refine ⟨by (first | omega | with_reducible assumption | (unfold rng; omega) | (unfold rng; (repeat' split) <;> omega) | grind), ?_⟩
      have q5 := rσ.1 85 (r25.toNat); simp only [rgT] at q5
      have L70 : ∀ (fu70 : Nat) (τ70 : Sg) (v5 : Int) (v6 : Int) (v7 : Int), Rg ra jx rm τ70 → Fr ra jx rm [] [0] σ τ70 → (0 ≤ v7 ∧ v7 ≤ 256 ∧ 0 ≤ v5 ∧ v5 ≤ v7 ∧ -1 ≤ v6 ∧ v6 ≤ 256) → ((256 - v7).toNat) < fu70 → wl_X16_lineage_70 ra jx rm Q X fu70 τ70 v3 (gI σ (ra 85) r25.toNat) v5 v6 v7 := by
        intro fu70
        induction fu70 with
        | zero => intro τ70 _ _ _ _ _ _ h9; omega
        | succ fu70 ih70 =>
          intro τ70 v5 v6 v7 rτ70 fτ70 hi70 hm70
          unfold wl_X16_lineage_70
          have eτ70_26 := fτ70.1 26 (by decide)
          have eτ70_85 := fτ70.1 85 (by decide)
          have eτ70_89 := fτ70.1 89 (by decide)
          have jτ70 := fτ70.2.2.1
          unfold w_X16_lineage_70
          try simp only [forall_eq, rII, rIJ, rIP, rJJ, rJI, rJP, rPP, rPI, rPJ, g1, g2, g3, g4, g5, g6, g7, g8, Nat.reduceEqDiff, Nat.reduceAdd, false_and, and_false, true_and, and_true, reduceIte, nZ0, nZ1, eτ70_26.1, eτ70_26.2, eτ70_85.1, eτ70_85.2, eτ70_89.1, eτ70_89.2, fun a k => (jτ70 a k).1, fun a k => (jτ70 a k).2]
          split
          · rename_i hc75
            skip
            unfold w_X16_lineage_130
            try simp only [forall_eq, rII, rIJ, rIP, rJJ, rJI, rJP, rPP, rPI, rPJ, g1, g2, g3, g4, g5, g6, g7, g8, Nat.reduceEqDiff, Nat.reduceAdd, false_and, and_false, true_and, and_true, reduceIte, nZ0, nZ1, eτ70_26.1, eτ70_26.2, eτ70_85.1, eτ70_85.2, eτ70_89.1, eτ70_89.2, fun a k => (jτ70 a k).1, fun a k => (jτ70 a k).2]
            split
            · rename_i hc132
              skip
              unfold w_X16_lineage_138
              try simp only [forall_eq, rII, rIJ, rIP, rJJ, rJI, rJP, rPP, rPI, rPJ, g1, g2, g3, g4, g5, g6, g7, g8, Nat.reduceEqDiff, Nat.reduceAdd, false_and, and_false, true_and, and_true, reduceIte, nZ0, nZ1, eτ70_26.1, eτ70_26.2, eτ70_85.1, eτ70_85.2, eτ70_89.1, eτ70_89.2, fun a k => (jτ70 a k).1, fun a k => (jτ70 a k).2]
              split
              · rename_i hc142
                skip
                unfold w_X16_lineage_149
                try simp only [forall_eq, rII, rIJ, rIP, rJJ, rJI, rJP, rPP, rPI, rPJ, g1, g2, g3, g4, g5, g6, g7, g8, Nat.reduceEqDiff, Nat.reduceAdd, false_and, and_false, true_and, and_true, reduceIte, nZ0, nZ1, eτ70_26.1, eτ70_26.2, eτ70_85.1, eτ70_85.2, eτ70_89.1, eτ70_89.2, fun a k => (jτ70 a k).1, fun a k => (jτ70 a k).2]
                unfold w_X16_lineage_150
                try simp only [forall_eq, rII, rIJ, rIP, rJJ, rJI, rJP, rPP, rPI, rPJ, g1, g2, g3, g4, g5, g6, g7, g8, Nat.reduceEqDiff, Nat.reduceAdd, false_and, and_false, true_and, and_true, reduceIte, nZ0, nZ1, eτ70_26.1, eτ70_26.2, eτ70_85.1, eτ70_85.2, eτ70_89.1, eτ70_89.2, fun a k => (jτ70 a k).1, fun a k => (jτ70 a k).2]
                try rw [if_pos (by decide)]
                unfold w_X16_lineage_164
                try simp only [forall_eq, rII, rIJ, rIP, rJJ, rJI, rJP, rPP, rPI, rPJ, g1, g2, g3, g4, g5, g6, g7, g8, Nat.reduceEqDiff, Nat.reduceAdd, false_and, and_false, true_and, and_true, reduceIte, nZ0, nZ1, eτ70_26.1, eτ70_26.2, eτ70_85.1, eτ70_85.2, eτ70_89.1, eτ70_89.2, fun a k => (jτ70 a k).1, fun a k => (jτ70 a k).2]
                unfold w_X16_lineage_166
                try simp only [forall_eq, rII, rIJ, rIP, rJJ, rJI, rJP, rPP, rPI, rPJ, g1, g2, g3, g4, g5, g6, g7, g8, Nat.reduceEqDiff, Nat.reduceAdd, false_and, and_false, true_and, and_true, reduceIte, nZ0, nZ1, eτ70_26.1, eτ70_26.2, eτ70_85.1, eτ70_85.2, eτ70_89.1, eτ70_89.2, fun a k => (jτ70 a k).1, fun a k => (jτ70 a k).2]
                refine hQ _ _ ?_ ?_ ?_
                · refine Rg.sI g ?_ (by simp only [rgS]; first | with_reducible exact nZ_rng _ | with_reducible exact nB_rng _ | with_reducible exact wr_rng _ | with_reducible exact i32any _ | (first | omega | with_reducible assumption | (unfold rng; omega) | (unfold rng; (repeat' split) <;> omega) | grind)); exact rτ70
                · refine Fr.sI g ?_ (by decide); exact fτ70
                · exact trivial
              · rename_i hc142
                skip
                unfold w_X16_lineage_145
                try simp only [forall_eq, rII, rIJ, rIP, rJJ, rJI, rJP, rPP, rPI, rPJ, g1, g2, g3, g4, g5, g6, g7, g8, Nat.reduceEqDiff, Nat.reduceAdd, false_and, and_false, true_and, and_true, reduceIte, nZ0, nZ1, eτ70_26.1, eτ70_26.2, eτ70_85.1, eτ70_85.2, eτ70_89.1, eτ70_89.2, fun a k => (jτ70 a k).1, fun a k => (jτ70 a k).2]
                unfold w_X16_lineage_150
                try simp only [forall_eq, rII, rIJ, rIP, rJJ, rJI, rJP, rPP, rPI, rPJ, g1, g2, g3, g4, g5, g6, g7, g8, Nat.reduceEqDiff, Nat.reduceAdd, false_and, and_false, true_and, and_true, reduceIte, nZ0, nZ1, eτ70_26.1, eτ70_26.2, eτ70_85.1, eτ70_85.2, eτ70_89.1, eτ70_89.2, fun a k => (jτ70 a k).1, fun a k => (jτ70 a k).2]
                try rw [if_neg (by decide)]
                unfold w_X16_lineage_160
                try simp only [forall_eq, rII, rIJ, rIP, rJJ, rJI, rJP, rPP, rPI, rPJ, g1, g2, g3, g4, g5, g6, g7, g8, Nat.reduceEqDiff, Nat.reduceAdd, false_and, and_false, true_and, and_true, reduceIte, nZ0, nZ1, eτ70_26.1, eτ70_26.2, eτ70_85.1, eτ70_85.2, eτ70_89.1, eτ70_89.2, fun a k => (jτ70 a k).1, fun a k => (jτ70 a k).2]
                unfold w_X16_lineage_166
                try simp only [forall_eq, rII, rIJ, rIP, rJJ, rJI, rJP, rPP, rPI, rPJ, g1, g2, g3, g4, g5, g6, g7, g8, Nat.reduceEqDiff, Nat.reduceAdd, false_and, and_false, true_and, and_true, reduceIte, nZ0, nZ1, eτ70_26.1, eτ70_26.2, eτ70_85.1, eτ70_85.2, eτ70_89.1, eτ70_89.2, fun a k => (jτ70 a k).1, fun a k => (jτ70 a k).2]
                refine hQ _ _ ?_ ?_ ?_
                · refine Rg.sI g ?_ (by simp only [rgS]; first | with_reducible exact nZ_rng _ | with_reducible exact nB_rng _ | with_reducible exact wr_rng _ | with_reducible exact i32any _ | (first | omega | with_reducible assumption | (unfold rng; omega) | (unfold rng; (repeat' split) <;> omega) | grind)); exact rτ70
                · refine Fr.sI g ?_ (by decide); exact fτ70
                · exact trivial
            · rename_i hc132
              skip
              unfold w_X16_lineage_135
              try simp only [forall_eq, rII, rIJ, rIP, rJJ, rJI, rJP, rPP, rPI, rPJ, g1, g2, g3, g4, g5, g6, g7, g8, Nat.reduceEqDiff, Nat.reduceAdd, false_and, and_false, true_and, and_true, reduceIte, nZ0, nZ1, eτ70_26.1, eτ70_26.2, eτ70_85.1, eτ70_85.2, eτ70_89.1, eτ70_89.2, fun a k => (jτ70 a k).1, fun a k => (jτ70 a k).2]
              refine hQ _ _ ?_ ?_ ?_
              · exact rτ70
              · exact fτ70
              · exact trivial
          · rename_i hc75
            skip
            unfold w_X16_lineage_78
            try simp only [forall_eq, rII, rIJ, rIP, rJJ, rJI, rJP, rPP, rPI, rPJ, g1, g2, g3, g4, g5, g6, g7, g8, Nat.reduceEqDiff, Nat.reduceAdd, false_and, and_false, true_and, and_true, reduceIte, nZ0, nZ1, eτ70_26.1, eτ70_26.2, eτ70_85.1, eτ70_85.2, eτ70_89.1, eτ70_89.2, fun a k => (jτ70 a k).1, fun a k => (jτ70 a k).2]
            refine ⟨by (first | omega | with_reducible assumption | (unfold rng; omega) | (unfold rng; (repeat' split) <;> omega) | grind), ?_⟩
            have q6 := divI_eq (x := v7) (y := 64) (by (first | omega | with_reducible assumption | (unfold rng; omega) | (unfold rng; (repeat' split) <;> omega) | grind)) (by (first | omega | with_reducible assumption | (unfold rng; omega) | (unfold rng; (repeat' split) <;> omega) | grind))
            refine ⟨by (first | omega | with_reducible assumption | (unfold rng; omega) | (unfold rng; (repeat' split) <;> omega) | grind), ?_⟩
            refine ⟨by (first | omega | with_reducible assumption | (unfold rng; omega) | (unfold rng; (repeat' split) <;> omega) | grind), ?_⟩
            have q7 := remI_eq (x := v7) (y := 64) (by (first | omega | with_reducible assumption | (unfold rng; omega) | (unfold rng; (repeat' split) <;> omega) | grind)) (by (first | omega | with_reducible assumption | (unfold rng; omega) | (unfold rng; (repeat' split) <;> omega) | grind))
            split
            · rename_i hc103
              skip
              unfold w_X16_lineage_124
              try simp only [forall_eq, rII, rIJ, rIP, rJJ, rJI, rJP, rPP, rPI, rPJ, g1, g2, g3, g4, g5, g6, g7, g8, Nat.reduceEqDiff, Nat.reduceAdd, false_and, and_false, true_and, and_true, reduceIte, nZ0, nZ1, eτ70_26.1, eτ70_26.2, eτ70_85.1, eτ70_85.2, eτ70_89.1, eτ70_89.2, fun a k => (jτ70 a k).1, fun a k => (jτ70 a k).2]
              refine ⟨by (first | omega | with_reducible assumption | (unfold rng; omega) | (unfold rng; (repeat' split) <;> omega) | grind), ?_⟩
              refine ih70 _ _ _ _ ?_ ?_ ?_ ?_
              · exact rτ70
              · exact fτ70
              · (try simp only [rII, rIJ, rIP, rJJ, rJI, rJP, rPP, rPI, rPJ, g1, g2, g3, g4, g5, g6, g7, g8, Nat.reduceEqDiff, Nat.reduceAdd, false_and, and_false, true_and, and_true, reduceIte, nZ0, nZ1, eτ70_26.1, eτ70_26.2, eτ70_85.1, eτ70_85.2, eτ70_89.1, eτ70_89.2, fun a k => (jτ70 a k).1, fun a k => (jτ70 a k).2]) <;> (first | omega | with_reducible assumption | (unfold rng; omega) | (unfold rng; (repeat' split) <;> omega) | grind)
              · (try simp only [rII, rIJ, rIP, rJJ, rJI, rJP, rPP, rPI, rPJ, g1, g2, g3, g4, g5, g6, g7, g8, Nat.reduceEqDiff, Nat.reduceAdd, false_and, and_false, true_and, and_true, reduceIte, nZ0, nZ1, eτ70_26.1, eτ70_26.2, eτ70_85.1, eτ70_85.2, eτ70_89.1, eτ70_89.2, fun a k => (jτ70 a k).1, fun a k => (jτ70 a k).2]) <;> (first | omega | with_reducible assumption | (unfold rng; omega) | (unfold rng; (repeat' split) <;> omega) | grind)
            · rename_i hc103
              skip
              unfold w_X16_lineage_106
              try simp only [forall_eq, rII, rIJ, rIP, rJJ, rJI, rJP, rPP, rPI, rPJ, g1, g2, g3, g4, g5, g6, g7, g8, Nat.reduceEqDiff, Nat.reduceAdd, false_and, and_false, true_and, and_true, reduceIte, nZ0, nZ1, eτ70_26.1, eτ70_26.2, eτ70_85.1, eτ70_85.2, eτ70_89.1, eτ70_89.2, fun a k => (jτ70 a k).1, fun a k => (jτ70 a k).2]
              split
              · rename_i hc109
                skip
                unfold w_X16_lineage_117
                try simp only [forall_eq, rII, rIJ, rIP, rJJ, rJI, rJP, rPP, rPI, rPJ, g1, g2, g3, g4, g5, g6, g7, g8, Nat.reduceEqDiff, Nat.reduceAdd, false_and, and_false, true_and, and_true, reduceIte, nZ0, nZ1, eτ70_26.1, eτ70_26.2, eτ70_85.1, eτ70_85.2, eτ70_89.1, eτ70_89.2, fun a k => (jτ70 a k).1, fun a k => (jτ70 a k).2]
                unfold w_X16_lineage_119
                try simp only [forall_eq, rII, rIJ, rIP, rJJ, rJI, rJP, rPP, rPI, rPJ, g1, g2, g3, g4, g5, g6, g7, g8, Nat.reduceEqDiff, Nat.reduceAdd, false_and, and_false, true_and, and_true, reduceIte, nZ0, nZ1, eτ70_26.1, eτ70_26.2, eτ70_85.1, eτ70_85.2, eτ70_89.1, eτ70_89.2, fun a k => (jτ70 a k).1, fun a k => (jτ70 a k).2]
                refine ⟨by (first | omega | with_reducible assumption | (unfold rng; omega) | (unfold rng; (repeat' split) <;> omega) | grind), ?_⟩
                unfold w_X16_lineage_124
                try simp only [forall_eq, rII, rIJ, rIP, rJJ, rJI, rJP, rPP, rPI, rPJ, g1, g2, g3, g4, g5, g6, g7, g8, Nat.reduceEqDiff, Nat.reduceAdd, false_and, and_false, true_and, and_true, reduceIte, nZ0, nZ1, eτ70_26.1, eτ70_26.2, eτ70_85.1, eτ70_85.2, eτ70_89.1, eτ70_89.2, fun a k => (jτ70 a k).1, fun a k => (jτ70 a k).2]
                refine ⟨by (first | omega | with_reducible assumption | (unfold rng; omega) | (unfold rng; (repeat' split) <;> omega) | grind), ?_⟩
                refine ih70 _ _ _ _ ?_ ?_ ?_ ?_
                · exact rτ70
                · exact fτ70
                · (try simp only [rII, rIJ, rIP, rJJ, rJI, rJP, rPP, rPI, rPJ, g1, g2, g3, g4, g5, g6, g7, g8, Nat.reduceEqDiff, Nat.reduceAdd, false_and, and_false, true_and, and_true, reduceIte, nZ0, nZ1, eτ70_26.1, eτ70_26.2, eτ70_85.1, eτ70_85.2, eτ70_89.1, eτ70_89.2, fun a k => (jτ70 a k).1, fun a k => (jτ70 a k).2]) <;> (first | omega | with_reducible assumption | (unfold rng; omega) | (unfold rng; (repeat' split) <;> omega) | grind)
                · (try simp only [rII, rIJ, rIP, rJJ, rJI, rJP, rPP, rPI, rPJ, g1, g2, g3, g4, g5, g6, g7, g8, Nat.reduceEqDiff, Nat.reduceAdd, false_and, and_false, true_and, and_true, reduceIte, nZ0, nZ1, eτ70_26.1, eτ70_26.2, eτ70_85.1, eτ70_85.2, eτ70_89.1, eτ70_89.2, fun a k => (jτ70 a k).1, fun a k => (jτ70 a k).2]) <;> (first | omega | with_reducible assumption | (unfold rng; omega) | (unfold rng; (repeat' split) <;> omega) | grind)
              · rename_i hc109
                skip
                unfold w_X16_lineage_112
                try simp only [forall_eq, rII, rIJ, rIP, rJJ, rJI, rJP, rPP, rPI, rPJ, g1, g2, g3, g4, g5, g6, g7, g8, Nat.reduceEqDiff, Nat.reduceAdd, false_and, and_false, true_and, and_true, reduceIte, nZ0, nZ1, eτ70_26.1, eτ70_26.2, eτ70_85.1, eτ70_85.2, eτ70_89.1, eτ70_89.2, fun a k => (jτ70 a k).1, fun a k => (jτ70 a k).2]
                unfold w_X16_lineage_119
                try simp only [forall_eq, rII, rIJ, rIP, rJJ, rJI, rJP, rPP, rPI, rPJ, g1, g2, g3, g4, g5, g6, g7, g8, Nat.reduceEqDiff, Nat.reduceAdd, false_and, and_false, true_and, and_true, reduceIte, nZ0, nZ1, eτ70_26.1, eτ70_26.2, eτ70_85.1, eτ70_85.2, eτ70_89.1, eτ70_89.2, fun a k => (jτ70 a k).1, fun a k => (jτ70 a k).2]
                refine ⟨by (first | omega | with_reducible assumption | (unfold rng; omega) | (unfold rng; (repeat' split) <;> omega) | grind), ?_⟩
                unfold w_X16_lineage_124
                try simp only [forall_eq, rII, rIJ, rIP, rJJ, rJI, rJP, rPP, rPI, rPJ, g1, g2, g3, g4, g5, g6, g7, g8, Nat.reduceEqDiff, Nat.reduceAdd, false_and, and_false, true_and, and_true, reduceIte, nZ0, nZ1, eτ70_26.1, eτ70_26.2, eτ70_85.1, eτ70_85.2, eτ70_89.1, eτ70_89.2, fun a k => (jτ70 a k).1, fun a k => (jτ70 a k).2]
                refine ⟨by (first | omega | with_reducible assumption | (unfold rng; omega) | (unfold rng; (repeat' split) <;> omega) | grind), ?_⟩
                refine ih70 _ _ _ _ ?_ ?_ ?_ ?_
                · exact rτ70
                · exact fτ70
                · (try simp only [rII, rIJ, rIP, rJJ, rJI, rJP, rPP, rPI, rPJ, g1, g2, g3, g4, g5, g6, g7, g8, Nat.reduceEqDiff, Nat.reduceAdd, false_and, and_false, true_and, and_true, reduceIte, nZ0, nZ1, eτ70_26.1, eτ70_26.2, eτ70_85.1, eτ70_85.2, eτ70_89.1, eτ70_89.2, fun a k => (jτ70 a k).1, fun a k => (jτ70 a k).2]) <;> (first | omega | with_reducible assumption | (unfold rng; omega) | (unfold rng; (repeat' split) <;> omega) | grind)
                · (try simp only [rII, rIJ, rIP, rJJ, rJI, rJP, rPP, rPI, rPJ, g1, g2, g3, g4, g5, g6, g7, g8, Nat.reduceEqDiff, Nat.reduceAdd, false_and, and_false, true_and, and_true, reduceIte, nZ0, nZ1, eτ70_26.1, eτ70_26.2, eτ70_85.1, eτ70_85.2, eτ70_89.1, eτ70_89.2, fun a k => (jτ70 a k).1, fun a k => (jτ70 a k).2]) <;> (first | omega | with_reducible assumption | (unfold rng; omega) | (unfold rng; (repeat' split) <;> omega) | grind)
      refine ⟨_, L70 _ _ _ _ _ ?_ ?_ ?_ (Nat.lt_succ_self _)⟩
      · refine Rg.sI g ?_ (by simp only [rgS]; first | with_reducible exact nZ_rng _ | with_reducible exact nB_rng _ | with_reducible exact wr_rng _ | with_reducible exact i32any _ | (first | omega | with_reducible assumption | (unfold rng; omega) | (unfold rng; (repeat' split) <;> omega) | grind)); exact rσ
      · refine Fr.sI g ?_ (by decide); exact fσ
      · (try simp only [rII, rIJ, rIP, rJJ, rJI, rJP, rPP, rPI, rPJ, g1, g2, g3, g4, g5, g6, g7, g8, Nat.reduceEqDiff, Nat.reduceAdd, false_and, and_false, true_and, and_true, reduceIte, nZ0, nZ1]) <;> (first | omega | with_reducible assumption | (unfold rng; omega) | (unfold rng; (repeat' split) <;> omega) | grind)
set_option maxHeartbeats 2000000 in
theorem s_X16_task {ra : Nat → Nat} {jx : Nat → Nat → Nat} {rm : Nat} {ja : Nat} (g : Geo ra jx rm) {σ : Sg} {v1 : Int} {v2 : Int} (rσ : Rg ra jx rm σ) (hj : 0 < gI σ rm 36 → gP σ rm 17 = some ja) (hja : ja = ra 15 ∨ ja = ra 16) (b1 : -2147483648 ≤ v1 ∧ v1 ≤ 2147483647) (b2 : -2147483648 ≤ v2 ∧ v2 ≤ 2147483647) (hco : cO jx ja σ (gI σ ja 0) = gI σ ja 1 ∧ gI σ ja 1 ≤ 4 ∧ 1 ≤ gI σ ja 0 ∧ gI σ ja 0 ≤ 16) (hto : ∀ t, 0 ≤ t → t < gI σ rm 36 → gI σ (ra 38) t.toNat < gI σ ja 0) {Q : Sg → Int64 → Prop} {X : Sg → String → Prop} (hQ : ∀ (σ' : Sg) (r : Int64), Rg ra jx rm σ' → Fr ra jx rm [] [0] σ σ' → (True) → Q σ' r) : wp_X16_task ra jx rm v1 v2 σ Q X := by
  obtain ⟨g1, g2, g3, g4, g5, g6, g7, g8⟩ := id g
  have fσ : Fr ra jx rm [] [0] σ σ := Fr.rf
  unfold wp_X16_task
  unfold w_X16_task_0
  try simp only [forall_eq, rII, rIJ, rIP, rJJ, rJI, rJP, rPP, rPI, rPJ, g1, g2, g3, g4, g5, g6, g7, g8, Nat.reduceEqDiff, Nat.reduceAdd, false_and, and_false, true_and, and_true, reduceIte, nZ0, nZ1]
  have q1 := rσ.2.1 36; simp only [rgS] at q1
  refine ⟨by (first | omega | with_reducible assumption | (unfold rng; omega) | (unfold rng; (repeat' split) <;> omega) | grind), ?_⟩
  refine s_X16_within g rσ (fun r18 p2 => ?_)
  obtain ⟨p2, p2b⟩ := p2
  have p2w : r18 = 1 → 0 ≤ v1 ∧ v1 ≤ ((gI σ rm 36) - 1) := fun e => win2 (by (first | omega | with_reducible assumption | (unfold rng; omega) | (unfold rng; (repeat' split) <;> omega) | grind)) (by (first | omega | with_reducible assumption | (unfold rng; omega) | (unfold rng; (repeat' split) <;> omega) | grind)) (by (first | omega | with_reducible assumption | (unfold rng; omega) | (unfold rng; (repeat' split) <;> omega) | grind)) (p2b e)
  try simp only [forall_eq, rII, rIJ, rIP, rJJ, rJI, rJP, rPP, rPI, rPJ, g1, g2, g3, g4, g5, g6, g7, g8, Nat.reduceEqDiff, Nat.reduceAdd, false_and, and_false, true_and, and_true, reduceIte, nZ0, nZ1]
  split
  · rename_i hc14
    skip
    unfold w_X16_task_21
    try simp only [forall_eq, rII, rIJ, rIP, rJJ, rJI, rJP, rPP, rPI, rPJ, g1, g2, g3, g4, g5, g6, g7, g8, Nat.reduceEqDiff, Nat.reduceAdd, false_and, and_false, true_and, and_true, reduceIte, nZ0, nZ1]
    have q3 := rσ.2.1 32; simp only [rgS] at q3
    split
    · rename_i hc25
      skip
      unfold w_X16_task_35
      try simp only [forall_eq, rII, rIJ, rIP, rJJ, rJI, rJP, rPP, rPI, rPJ, g1, g2, g3, g4, g5, g6, g7, g8, Nat.reduceEqDiff, Nat.reduceAdd, false_and, and_false, true_and, and_true, reduceIte, nZ0, nZ1]
      unfold w_X16_task_56
      try simp only [forall_eq, rII, rIJ, rIP, rJJ, rJI, rJP, rPP, rPI, rPJ, g1, g2, g3, g4, g5, g6, g7, g8, Nat.reduceEqDiff, Nat.reduceAdd, false_and, and_false, true_and, and_true, reduceIte, nZ0, nZ1]
      try rw [if_neg (by decide)]
      unfold w_X16_task_66
      try simp only [forall_eq, rII, rIJ, rIP, rJJ, rJI, rJP, rPP, rPI, rPJ, g1, g2, g3, g4, g5, g6, g7, g8, Nat.reduceEqDiff, Nat.reduceAdd, false_and, and_false, true_and, and_true, reduceIte, nZ0, nZ1]
      refine hQ _ _ ?_ ?_ ?_
      · refine Rg.sI g ?_ (by simp only [rgS]; first | with_reducible exact nZ_rng _ | with_reducible exact nB_rng _ | with_reducible exact wr_rng _ | with_reducible exact i32any _ | (first | omega | with_reducible assumption | (unfold rng; omega) | (unfold rng; (repeat' split) <;> omega) | grind)); exact rσ
      · refine Fr.sI g ?_ (by decide); exact fσ
      · exact trivial
    · rename_i hc25
      skip
      unfold w_X16_task_28
      try simp only [forall_eq, rII, rIJ, rIP, rJJ, rJI, rJP, rPP, rPI, rPJ, g1, g2, g3, g4, g5, g6, g7, g8, Nat.reduceEqDiff, Nat.reduceAdd, false_and, and_false, true_and, and_true, reduceIte, nZ0, nZ1]
      have q4 := rσ.2.1 31; simp only [rgS] at q4
      split
      · rename_i hc32
        skip
        unfold w_X16_task_39
        try simp only [forall_eq, rII, rIJ, rIP, rJJ, rJI, rJP, rPP, rPI, rPJ, g1, g2, g3, g4, g5, g6, g7, g8, Nat.reduceEqDiff, Nat.reduceAdd, false_and, and_false, true_and, and_true, reduceIte, nZ0, nZ1]
        refine s_X16_within g rσ (fun r21 p5 => ?_)
        obtain ⟨p5, p5b⟩ := p5
        have p5w : r21 = 1 → 0 ≤ v2 ∧ v2 ≤ 8 := fun e => win (by (first | omega | with_reducible assumption | (unfold rng; omega) | (unfold rng; (repeat' split) <;> omega) | grind)) (p5b e)
        try simp only [forall_eq, rII, rIJ, rIP, rJJ, rJI, rJP, rPP, rPI, rPJ, g1, g2, g3, g4, g5, g6, g7, g8, Nat.reduceEqDiff, Nat.reduceAdd, false_and, and_false, true_and, and_true, reduceIte, nZ0, nZ1]
        split
        · rename_i hc48
          skip
          unfold w_X16_task_55
          try simp only [forall_eq, rII, rIJ, rIP, rJJ, rJI, rJP, rPP, rPI, rPJ, g1, g2, g3, g4, g5, g6, g7, g8, Nat.reduceEqDiff, Nat.reduceAdd, false_and, and_false, true_and, and_true, reduceIte, nZ0, nZ1]
          unfold w_X16_task_56
          try simp only [forall_eq, rII, rIJ, rIP, rJJ, rJI, rJP, rPP, rPI, rPJ, g1, g2, g3, g4, g5, g6, g7, g8, Nat.reduceEqDiff, Nat.reduceAdd, false_and, and_false, true_and, and_true, reduceIte, nZ0, nZ1]
          try rw [if_pos (by decide)]
          unfold w_X16_task_68
          try simp only [forall_eq, rII, rIJ, rIP, rJJ, rJI, rJP, rPP, rPI, rPJ, g1, g2, g3, g4, g5, g6, g7, g8, Nat.reduceEqDiff, Nat.reduceAdd, false_and, and_false, true_and, and_true, reduceIte, nZ0, nZ1]
          refine ⟨by (first | omega | with_reducible assumption | (unfold rng; omega) | (unfold rng; (repeat' split) <;> omega) | grind), ?_⟩
          refine ⟨ja, by exact hj (by omega), hja, ?_⟩
          have q6 := rσ.1 38 (v1.toNat); simp only [rgT] at q6
          refine ⟨by (first | omega | with_reducible assumption | (unfold rng; omega) | (unfold rng; (repeat' split) <;> omega) | grind), ?_⟩
          by_cases hc87_0 : v2 = 0
          · rw [if_pos hc87_0]
            unfold w_X16_task_132
            try simp only [forall_eq, rII, rIJ, rIP, rJJ, rJI, rJP, rPP, rPI, rPJ, g1, g2, g3, g4, g5, g6, g7, g8, Nat.reduceEqDiff, Nat.reduceAdd, false_and, and_false, true_and, and_true, reduceIte, nZ0, nZ1]
            refine hQ _ _ ?_ ?_ ?_
            · refine Rg.sI g ?_ (by simp only [rgS]; first | with_reducible exact nZ_rng _ | with_reducible exact nB_rng _ | with_reducible exact wr_rng _ | with_reducible exact i32any _ | (first | omega | with_reducible assumption | (unfold rng; omega) | (unfold rng; (repeat' split) <;> omega) | grind)); exact rσ
            · refine Fr.sI g ?_ (by decide); exact fσ
            · exact trivial
          · rw [if_neg hc87_0]
            by_cases hc87_1 : v2 = 1
            · rw [if_pos hc87_1]
              unfold w_X16_task_135
              try simp only [forall_eq, rII, rIJ, rIP, rJJ, rJI, rJP, rPP, rPI, rPJ, g1, g2, g3, g4, g5, g6, g7, g8, Nat.reduceEqDiff, Nat.reduceAdd, false_and, and_false, true_and, and_true, reduceIte, nZ0, nZ1]
              refine ⟨by (first | omega | with_reducible assumption | (unfold rng; omega) | (unfold rng; (repeat' split) <;> omega) | grind), ?_⟩
              refine hQ _ _ ?_ ?_ ?_
              · refine Rg.sI g ?_ (by simp only [rgS]; first | with_reducible exact nZ_rng _ | with_reducible exact nB_rng _ | with_reducible exact wr_rng _ | with_reducible exact i32any _ | (first | omega | with_reducible assumption | (unfold rng; omega) | (unfold rng; (repeat' split) <;> omega) | grind)); exact rσ
              · refine Fr.sI g ?_ (by decide); exact fσ
              · exact trivial
            · rw [if_neg hc87_1]
              by_cases hc87_2 : v2 = 2
              · rw [if_pos hc87_2]
                unfold w_X16_task_143
                try simp only [forall_eq, rII, rIJ, rIP, rJJ, rJI, rJP, rPP, rPI, rPJ, g1, g2, g3, g4, g5, g6, g7, g8, Nat.reduceEqDiff, Nat.reduceAdd, false_and, and_false, true_and, and_true, reduceIte, nZ0, nZ1]
                refine ⟨by (first | omega | with_reducible assumption | (unfold rng; omega) | (unfold rng; (repeat' split) <;> omega) | grind), ?_⟩
                refine hQ _ _ ?_ ?_ ?_
                · refine Rg.sI g ?_ (by simp only [rgS]; first | with_reducible exact nZ_rng _ | with_reducible exact nB_rng _ | with_reducible exact wr_rng _ | with_reducible exact i32any _ | (first | omega | with_reducible assumption | (unfold rng; omega) | (unfold rng; (repeat' split) <;> omega) | grind)); exact rσ
                · refine Fr.sI g ?_ (by decide); exact fσ
                · exact trivial
              · rw [if_neg hc87_2]
                by_cases hc87_3 : v2 = 3
                · rw [if_pos hc87_3]
                  unfold w_X16_task_150
                  try simp only [forall_eq, rII, rIJ, rIP, rJJ, rJI, rJP, rPP, rPI, rPJ, g1, g2, g3, g4, g5, g6, g7, g8, Nat.reduceEqDiff, Nat.reduceAdd, false_and, and_false, true_and, and_true, reduceIte, nZ0, nZ1]
                  refine ⟨by (first | omega | with_reducible assumption | (unfold rng; omega) | (unfold rng; (repeat' split) <;> omega) | grind), ?_⟩
                  refine hQ _ _ ?_ ?_ ?_
                  · refine Rg.sI g ?_ (by simp only [rgS]; first | with_reducible exact nZ_rng _ | with_reducible exact nB_rng _ | with_reducible exact wr_rng _ | with_reducible exact i32any _ | (first | omega | with_reducible assumption | (unfold rng; omega) | (unfold rng; (repeat' split) <;> omega) | grind)); exact rσ
                  · refine Fr.sI g ?_ (by decide); exact fσ
                  · exact trivial
                · rw [if_neg hc87_3]
                  by_cases hc87_4 : v2 = 4
                  · rw [if_pos hc87_4]
                    unfold w_X16_task_158
                    try simp only [forall_eq, rII, rIJ, rIP, rJJ, rJI, rJP, rPP, rPI, rPJ, g1, g2, g3, g4, g5, g6, g7, g8, Nat.reduceEqDiff, Nat.reduceAdd, false_and, and_false, true_and, and_true, reduceIte, nZ0, nZ1]
                    have q7 := rσ.2.2.1 ja 2 ((gI σ (ra 38) v1.toNat).toNat); simp only [rgJ] at q7
                    split
                    · rename_i hc162
                      skip
                      unfold w_X16_task_181
                      try simp only [forall_eq, rII, rIJ, rIP, rJJ, rJI, rJP, rPP, rPI, rPJ, g1, g2, g3, g4, g5, g6, g7, g8, Nat.reduceEqDiff, Nat.reduceAdd, false_and, and_false, true_and, and_true, reduceIte, nZ0, nZ1]
                      refine ⟨by (first | omega | with_reducible assumption | (unfold rng; omega) | (unfold rng; (repeat' split) <;> omega) | grind), ?_⟩
                      unfold w_X16_task_188
                      try simp only [forall_eq, rII, rIJ, rIP, rJJ, rJI, rJP, rPP, rPI, rPJ, g1, g2, g3, g4, g5, g6, g7, g8, Nat.reduceEqDiff, Nat.reduceAdd, false_and, and_false, true_and, and_true, reduceIte, nZ0, nZ1]
                      refine hQ _ _ ?_ ?_ ?_
                      · refine Rg.sI g ?_ (by simp only [rgS]; first | with_reducible exact nZ_rng _ | with_reducible exact nB_rng _ | with_reducible exact wr_rng _ | with_reducible exact i32any _ | (first | omega | with_reducible assumption | (unfold rng; omega) | (unfold rng; (repeat' split) <;> omega) | grind)); exact rσ
                      · refine Fr.sI g ?_ (by decide); exact fσ
                      · exact trivial
                    · rename_i hc162
                      skip
                      unfold w_X16_task_165
                      try simp only [forall_eq, rII, rIJ, rIP, rJJ, rJI, rJP, rPP, rPI, rPJ, g1, g2, g3, g4, g5, g6, g7, g8, Nat.reduceEqDiff, Nat.reduceAdd, false_and, and_false, true_and, and_true, reduceIte, nZ0, nZ1]
                      refine s_X16_outputOf g (by refine Rg.sI g ?_ (by simp only [rgS]; first | with_reducible exact nZ_rng _ | with_reducible exact nB_rng _ | with_reducible exact wr_rng _ | with_reducible exact i32any _ | (first | omega | with_reducible assumption | (unfold rng; omega) | (unfold rng; (repeat' split) <;> omega) | grind)); exact rσ) (by exact hj (by omega)) hja (by (try simp only [rII, rIJ, rIP, rJJ, rJI, rJP, rPP, rPI, rPJ, g1, g2, g3, g4, g5, g6, g7, g8, Nat.reduceEqDiff, Nat.reduceAdd, false_and, and_false, true_and, and_true, reduceIte, nZ0, nZ1]) <;> (first | omega | with_reducible assumption | (unfold rng; omega) | (unfold rng; (repeat' split) <;> omega) | grind)) (fun r25 p8 => ?_)
                      try simp only [forall_eq, rII, rIJ, rIP, rJJ, rJI, rJP, rPP, rPI, rPJ, g1, g2, g3, g4, g5, g6, g7, g8, Nat.reduceEqDiff, Nat.reduceAdd, false_and, and_false, true_and, and_true, reduceIte, nZ0, nZ1]
                      have ht9 := hto v1 (by omega) (by omega)
                      have m9 := cO_mono (jx := jx) (ja := ja) (σ := σ) (n := gI σ (ra 38) v1.toNat + 1) (m := gI σ ja 0) (by omega) (by omega)
                      have c9 := cO_succ (jx := jx) (ja := ja) (σ := σ) (n := gI σ (ra 38) v1.toNat) (by omega)
                      rw [if_pos (by omega)] at c9
                      have p9 := p8.1
                      rw [show cO jx ja _ (gI σ (ra 38) v1.toNat) = cO jx ja σ (gI σ (ra 38) v1.toNat) from by unfold cO; simp only [rII, rIJ, rIP, rJJ, rJI, rJP, rPP, rPI, rPJ, g1, g2, g3, g4, g5, g6, g7, g8, Nat.reduceEqDiff, Nat.reduceAdd, false_and, and_false, true_and, and_true, reduceIte, nZ0, nZ1]] at p9
                      refine ⟨by (first | omega | with_reducible assumption | (unfold rng; omega) | (unfold rng; (repeat' split) <;> omega) | grind), ?_⟩
                      refine ⟨by (first | omega | with_reducible assumption | (unfold rng; omega) | (unfold rng; (repeat' split) <;> omega) | grind), ?_⟩
                      unfold w_X16_task_188
                      try simp only [forall_eq, rII, rIJ, rIP, rJJ, rJI, rJP, rPP, rPI, rPJ, g1, g2, g3, g4, g5, g6, g7, g8, Nat.reduceEqDiff, Nat.reduceAdd, false_and, and_false, true_and, and_true, reduceIte, nZ0, nZ1]
                      refine hQ _ _ ?_ ?_ ?_
                      · refine Rg.sI g ?_ (by simp only [rgS]; first | with_reducible exact nZ_rng _ | with_reducible exact nB_rng _ | with_reducible exact wr_rng _ | with_reducible exact i32any _ | (first | omega | with_reducible assumption | (unfold rng; omega) | (unfold rng; (repeat' split) <;> omega) | grind)); exact rσ
                      · refine Fr.sI g ?_ (by decide); exact fσ
                      · exact trivial
                  · rw [if_neg hc87_4]
                    by_cases hc87_5 : v2 = 5
                    · rw [if_pos hc87_5]
                      unfold w_X16_task_189
                      try simp only [forall_eq, rII, rIJ, rIP, rJJ, rJI, rJP, rPP, rPI, rPJ, g1, g2, g3, g4, g5, g6, g7, g8, Nat.reduceEqDiff, Nat.reduceAdd, false_and, and_false, true_and, and_true, reduceIte, nZ0, nZ1]
                      refine ⟨by (first | omega | with_reducible assumption | (unfold rng; omega) | (unfold rng; (repeat' split) <;> omega) | grind), ?_⟩
                      refine hQ _ _ ?_ ?_ ?_
                      · refine Rg.sI g ?_ (by simp only [rgS]; first | with_reducible exact nZ_rng _ | with_reducible exact nB_rng _ | with_reducible exact wr_rng _ | with_reducible exact i32any _ | (first | omega | with_reducible assumption | (unfold rng; omega) | (unfold rng; (repeat' split) <;> omega) | grind)); exact rσ
                      · refine Fr.sI g ?_ (by decide); exact fσ
                      · exact trivial
                    · rw [if_neg hc87_5]
                      by_cases hc87_6 : v2 = 6
                      · rw [if_pos hc87_6]
                        unfold w_X16_task_197
                        try simp only [forall_eq, rII, rIJ, rIP, rJJ, rJI, rJP, rPP, rPI, rPJ, g1, g2, g3, g4, g5, g6, g7, g8, Nat.reduceEqDiff, Nat.reduceAdd, false_and, and_false, true_and, and_true, reduceIte, nZ0, nZ1]
                        refine ⟨by (first | omega | with_reducible assumption | (unfold rng; omega) | (unfold rng; (repeat' split) <;> omega) | grind), ?_⟩
                        refine hQ _ _ ?_ ?_ ?_
                        · refine Rg.sI g ?_ (by simp only [rgS]; first | with_reducible exact nZ_rng _ | with_reducible exact nB_rng _ | with_reducible exact wr_rng _ | with_reducible exact i32any _ | (first | omega | with_reducible assumption | (unfold rng; omega) | (unfold rng; (repeat' split) <;> omega) | grind)); exact rσ
                        · refine Fr.sI g ?_ (by decide); exact fσ
                        · exact trivial
                      · rw [if_neg hc87_6]
                        by_cases hc87_7 : v2 = 7
                        · rw [if_pos hc87_7]
                          unfold w_X16_task_205
                          try simp only [forall_eq, rII, rIJ, rIP, rJJ, rJI, rJP, rPP, rPI, rPJ, g1, g2, g3, g4, g5, g6, g7, g8, Nat.reduceEqDiff, Nat.reduceAdd, false_and, and_false, true_and, and_true, reduceIte, nZ0, nZ1]
                          have q9 := rσ.2.2.1 ja 2 ((gI σ (ra 38) v1.toNat).toNat); simp only [rgJ] at q9
                          split
                          · rename_i hc207
                            skip
                            unfold w_X16_task_220
                            try simp only [forall_eq, rII, rIJ, rIP, rJJ, rJI, rJP, rPP, rPI, rPJ, g1, g2, g3, g4, g5, g6, g7, g8, Nat.reduceEqDiff, Nat.reduceAdd, false_and, and_false, true_and, and_true, reduceIte, nZ0, nZ1]
                            unfold w_X16_task_223
                            try simp only [forall_eq, rII, rIJ, rIP, rJJ, rJI, rJP, rPP, rPI, rPJ, g1, g2, g3, g4, g5, g6, g7, g8, Nat.reduceEqDiff, Nat.reduceAdd, false_and, and_false, true_and, and_true, reduceIte, nZ0, nZ1]
                            refine hQ _ _ ?_ ?_ ?_
                            · refine Rg.sI g ?_ (by simp only [rgS]; first | with_reducible exact nZ_rng _ | with_reducible exact nB_rng _ | with_reducible exact wr_rng _ | with_reducible exact i32any _ | (first | omega | with_reducible assumption | (unfold rng; omega) | (unfold rng; (repeat' split) <;> omega) | grind)); exact rσ
                            · refine Fr.sI g ?_ (by decide); exact fσ
                            · exact trivial
                          · rename_i hc207
                            skip
                            unfold w_X16_task_210
                            try simp only [forall_eq, rII, rIJ, rIP, rJJ, rJI, rJP, rPP, rPI, rPJ, g1, g2, g3, g4, g5, g6, g7, g8, Nat.reduceEqDiff, Nat.reduceAdd, false_and, and_false, true_and, and_true, reduceIte, nZ0, nZ1]
                            refine ⟨by (first | omega | with_reducible assumption | (unfold rng; omega) | (unfold rng; (repeat' split) <;> omega) | grind), ?_⟩
                            unfold w_X16_task_223
                            try simp only [forall_eq, rII, rIJ, rIP, rJJ, rJI, rJP, rPP, rPI, rPJ, g1, g2, g3, g4, g5, g6, g7, g8, Nat.reduceEqDiff, Nat.reduceAdd, false_and, and_false, true_and, and_true, reduceIte, nZ0, nZ1]
                            refine hQ _ _ ?_ ?_ ?_
                            · refine Rg.sI g ?_ (by simp only [rgS]; first | with_reducible exact nZ_rng _ | with_reducible exact nB_rng _ | with_reducible exact wr_rng _ | with_reducible exact i32any _ | (first | omega | with_reducible assumption | (unfold rng; omega) | (unfold rng; (repeat' split) <;> omega) | grind)); exact rσ
                            · refine Fr.sI g ?_ (by decide); exact fσ
                            · exact trivial
                        · rw [if_neg hc87_7]
                          unfold w_X16_task_224
                          try simp only [forall_eq, rII, rIJ, rIP, rJJ, rJI, rJP, rPP, rPI, rPJ, g1, g2, g3, g4, g5, g6, g7, g8, Nat.reduceEqDiff, Nat.reduceAdd, false_and, and_false, true_and, and_true, reduceIte, nZ0, nZ1]
                          have q10 := rσ.2.1 93; simp only [rgS] at q10
                          split
                          · rename_i hc228
                            skip
                            unfold w_X16_task_244
                            try simp only [forall_eq, rII, rIJ, rIP, rJJ, rJI, rJP, rPP, rPI, rPJ, g1, g2, g3, g4, g5, g6, g7, g8, Nat.reduceEqDiff, Nat.reduceAdd, false_and, and_false, true_and, and_true, reduceIte, nZ0, nZ1]
                            unfold w_X16_task_245
                            try simp only [forall_eq, rII, rIJ, rIP, rJJ, rJI, rJP, rPP, rPI, rPJ, g1, g2, g3, g4, g5, g6, g7, g8, Nat.reduceEqDiff, Nat.reduceAdd, false_and, and_false, true_and, and_true, reduceIte, nZ0, nZ1]
                            refine hQ _ _ ?_ ?_ ?_
                            · refine Rg.sI g ?_ (by simp only [rgS]; first | with_reducible exact nZ_rng _ | with_reducible exact nB_rng _ | with_reducible exact wr_rng _ | with_reducible exact i32any _ | (first | omega | with_reducible assumption | (unfold rng; omega) | (unfold rng; (repeat' split) <;> omega) | grind)); exact rσ
                            · refine Fr.sI g ?_ (by decide); exact fσ
                            · exact trivial
                          · rename_i hc228
                            skip
                            unfold w_X16_task_231
                            try simp only [forall_eq, rII, rIJ, rIP, rJJ, rJI, rJP, rPP, rPI, rPJ, g1, g2, g3, g4, g5, g6, g7, g8, Nat.reduceEqDiff, Nat.reduceAdd, false_and, and_false, true_and, and_true, reduceIte, nZ0, nZ1]
                            refine ⟨by (first | omega | with_reducible assumption | (unfold rng; omega) | (unfold rng; (repeat' split) <;> omega) | grind), ?_⟩
                            have q11 := rσ.1 44 (v1.toNat); simp only [rgT] at q11
                            split
                            · rename_i hc237
                              skip
                              unfold w_X16_task_244
                              try simp only [forall_eq, rII, rIJ, rIP, rJJ, rJI, rJP, rPP, rPI, rPJ, g1, g2, g3, g4, g5, g6, g7, g8, Nat.reduceEqDiff, Nat.reduceAdd, false_and, and_false, true_and, and_true, reduceIte, nZ0, nZ1]
                              unfold w_X16_task_245
                              try simp only [forall_eq, rII, rIJ, rIP, rJJ, rJI, rJP, rPP, rPI, rPJ, g1, g2, g3, g4, g5, g6, g7, g8, Nat.reduceEqDiff, Nat.reduceAdd, false_and, and_false, true_and, and_true, reduceIte, nZ0, nZ1]
                              refine hQ _ _ ?_ ?_ ?_
                              · refine Rg.sI g ?_ (by simp only [rgS]; first | with_reducible exact nZ_rng _ | with_reducible exact nB_rng _ | with_reducible exact wr_rng _ | with_reducible exact i32any _ | (first | omega | with_reducible assumption | (unfold rng; omega) | (unfold rng; (repeat' split) <;> omega) | grind)); exact rσ
                              · refine Fr.sI g ?_ (by decide); exact fσ
                              · exact trivial
                            · rename_i hc237
                              skip
                              unfold w_X16_task_240
                              try simp only [forall_eq, rII, rIJ, rIP, rJJ, rJI, rJP, rPP, rPI, rPJ, g1, g2, g3, g4, g5, g6, g7, g8, Nat.reduceEqDiff, Nat.reduceAdd, false_and, and_false, true_and, and_true, reduceIte, nZ0, nZ1]
                              unfold w_X16_task_245
                              try simp only [forall_eq, rII, rIJ, rIP, rJJ, rJI, rJP, rPP, rPI, rPJ, g1, g2, g3, g4, g5, g6, g7, g8, Nat.reduceEqDiff, Nat.reduceAdd, false_and, and_false, true_and, and_true, reduceIte, nZ0, nZ1]
                              refine hQ _ _ ?_ ?_ ?_
                              · refine Rg.sI g ?_ (by simp only [rgS]; first | with_reducible exact nZ_rng _ | with_reducible exact nB_rng _ | with_reducible exact wr_rng _ | with_reducible exact i32any _ | (first | omega | with_reducible assumption | (unfold rng; omega) | (unfold rng; (repeat' split) <;> omega) | grind)); exact rσ
                              · refine Fr.sI g ?_ (by decide); exact fσ
                              · exact trivial
        · rename_i hc48
          skip
          unfold w_X16_task_51
          try simp only [forall_eq, rII, rIJ, rIP, rJJ, rJI, rJP, rPP, rPI, rPJ, g1, g2, g3, g4, g5, g6, g7, g8, Nat.reduceEqDiff, Nat.reduceAdd, false_and, and_false, true_and, and_true, reduceIte, nZ0, nZ1]
          unfold w_X16_task_56
          try simp only [forall_eq, rII, rIJ, rIP, rJJ, rJI, rJP, rPP, rPI, rPJ, g1, g2, g3, g4, g5, g6, g7, g8, Nat.reduceEqDiff, Nat.reduceAdd, false_and, and_false, true_and, and_true, reduceIte, nZ0, nZ1]
          try rw [if_neg (by decide)]
          unfold w_X16_task_66
          try simp only [forall_eq, rII, rIJ, rIP, rJJ, rJI, rJP, rPP, rPI, rPJ, g1, g2, g3, g4, g5, g6, g7, g8, Nat.reduceEqDiff, Nat.reduceAdd, false_and, and_false, true_and, and_true, reduceIte, nZ0, nZ1]
          refine hQ _ _ ?_ ?_ ?_
          · refine Rg.sI g ?_ (by simp only [rgS]; first | with_reducible exact nZ_rng _ | with_reducible exact nB_rng _ | with_reducible exact wr_rng _ | with_reducible exact i32any _ | (first | omega | with_reducible assumption | (unfold rng; omega) | (unfold rng; (repeat' split) <;> omega) | grind)); exact rσ
          · refine Fr.sI g ?_ (by decide); exact fσ
          · exact trivial
      · rename_i hc32
        skip
        unfold w_X16_task_35
        try simp only [forall_eq, rII, rIJ, rIP, rJJ, rJI, rJP, rPP, rPI, rPJ, g1, g2, g3, g4, g5, g6, g7, g8, Nat.reduceEqDiff, Nat.reduceAdd, false_and, and_false, true_and, and_true, reduceIte, nZ0, nZ1]
        unfold w_X16_task_56
        try simp only [forall_eq, rII, rIJ, rIP, rJJ, rJI, rJP, rPP, rPI, rPJ, g1, g2, g3, g4, g5, g6, g7, g8, Nat.reduceEqDiff, Nat.reduceAdd, false_and, and_false, true_and, and_true, reduceIte, nZ0, nZ1]
        try rw [if_neg (by decide)]
        unfold w_X16_task_66
        try simp only [forall_eq, rII, rIJ, rIP, rJJ, rJI, rJP, rPP, rPI, rPJ, g1, g2, g3, g4, g5, g6, g7, g8, Nat.reduceEqDiff, Nat.reduceAdd, false_and, and_false, true_and, and_true, reduceIte, nZ0, nZ1]
        refine hQ _ _ ?_ ?_ ?_
        · refine Rg.sI g ?_ (by simp only [rgS]; first | with_reducible exact nZ_rng _ | with_reducible exact nB_rng _ | with_reducible exact wr_rng _ | with_reducible exact i32any _ | (first | omega | with_reducible assumption | (unfold rng; omega) | (unfold rng; (repeat' split) <;> omega) | grind)); exact rσ
        · refine Fr.sI g ?_ (by decide); exact fσ
        · exact trivial
  · rename_i hc14
    skip
    unfold w_X16_task_17
    try simp only [forall_eq, rII, rIJ, rIP, rJJ, rJI, rJP, rPP, rPI, rPJ, g1, g2, g3, g4, g5, g6, g7, g8, Nat.reduceEqDiff, Nat.reduceAdd, false_and, and_false, true_and, and_true, reduceIte, nZ0, nZ1]
    unfold w_X16_task_56
    try simp only [forall_eq, rII, rIJ, rIP, rJJ, rJI, rJP, rPP, rPI, rPJ, g1, g2, g3, g4, g5, g6, g7, g8, Nat.reduceEqDiff, Nat.reduceAdd, false_and, and_false, true_and, and_true, reduceIte, nZ0, nZ1]
    try rw [if_neg (by decide)]
    unfold w_X16_task_66
    try simp only [forall_eq, rII, rIJ, rIP, rJJ, rJI, rJP, rPP, rPI, rPJ, g1, g2, g3, g4, g5, g6, g7, g8, Nat.reduceEqDiff, Nat.reduceAdd, false_and, and_false, true_and, and_true, reduceIte, nZ0, nZ1]
    refine hQ _ _ ?_ ?_ ?_
    · refine Rg.sI g ?_ (by simp only [rgS]; first | with_reducible exact nZ_rng _ | with_reducible exact nB_rng _ | with_reducible exact wr_rng _ | with_reducible exact i32any _ | (first | omega | with_reducible assumption | (unfold rng; omega) | (unfold rng; (repeat' split) <;> omega) | grind)); exact rσ
    · refine Fr.sI g ?_ (by decide); exact fσ
    · exact trivial
set_option maxHeartbeats 1000000 in
theorem s_X16_give {ra : Nat → Nat} {jx : Nat → Nat → Nat} {rm : Nat} {ja : Nat} (g : Geo ra jx rm) {σ : Sg} {v1 : Int} {v2 : Int} {v3 : Int64} {v5 : Int64} {v7 : Int64} {v9 : Int64} (rσ : Rg ra jx rm σ) (hj : gP σ rm 17 = none ∨ gP σ rm 17 = some ja) (hja : ja = ra 15 ∨ ja = ra 16) (hn : 0 ≤ gI σ ja 0 ∧ gI σ ja 0 ≤ 16) (hno : 0 ≤ gI σ ja 1 ∧ gI σ ja 1 ≤ 4) (b1 : -2147483648 ≤ v1 ∧ v1 ≤ 2147483647) (b2 : -2147483648 ≤ v2 ∧ v2 ≤ 2147483647) {Q : Sg → Int → Prop} {X : Sg → String → Prop} (hQ : ∀ (σ' : Sg) (r : Int), Rg ra jx rm σ' → Fr ra jx rm [22, 23, 24] [0] σ σ' → (True) → Q σ' r) : wp_X16_give ra jx rm v1 v2 v3 v5 v7 v9 σ Q X := by
  obtain ⟨g1, g2, g3, g4, g5, g6, g7, g8⟩ := id g
  have fσ : Fr ra jx rm [22, 23, 24] [0] σ σ := Fr.rf
  unfold wp_X16_give
  unfold w_X16_give_0
  try simp only [forall_eq, rII, rIJ, rIP, rJJ, rJI, rJP, rPP, rPI, rPJ, g1, g2, g3, g4, g5, g6, g7, g8, Nat.reduceEqDiff, Nat.reduceAdd, false_and, and_false, true_and, and_true, reduceIte, nZ0, nZ1]
  refine s_X16_within g rσ (fun r28 p1 => ?_)
  obtain ⟨p1, p1b⟩ := p1
  have p1w : r28 = 1 → 0 ≤ v1 ∧ v1 ≤ 3 := fun e => win (by (first | omega | with_reducible assumption | (unfold rng; omega) | (unfold rng; (repeat' split) <;> omega) | grind)) (p1b e)
  try simp only [forall_eq, rII, rIJ, rIP, rJJ, rJI, rJP, rPP, rPI, rPJ, g1, g2, g3, g4, g5, g6, g7, g8, Nat.reduceEqDiff, Nat.reduceAdd, false_and, and_false, true_and, and_true, reduceIte, nZ0, nZ1]
  split
  · rename_i hc10
    skip
    unfold w_X16_give_17
    try simp only [forall_eq, rII, rIJ, rIP, rJJ, rJI, rJP, rPP, rPI, rPJ, g1, g2, g3, g4, g5, g6, g7, g8, Nat.reduceEqDiff, Nat.reduceAdd, false_and, and_false, true_and, and_true, reduceIte, nZ0, nZ1]
    refine s_X16_hasSource g rσ (by exact hj) hja (by (try simp only [rII, rIJ, rIP, rJJ, rJI, rJP, rPP, rPI, rPJ, g1, g2, g3, g4, g5, g6, g7, g8, Nat.reduceEqDiff, Nat.reduceAdd, false_and, and_false, true_and, and_true, reduceIte, nZ0, nZ1]) <;> (first | omega | with_reducible assumption | (unfold rng; omega) | (unfold rng; (repeat' split) <;> omega) | grind)) (fun r30 p2 => ?_)
    try simp only [forall_eq, rII, rIJ, rIP, rJJ, rJI, rJP, rPP, rPI, rPJ, g1, g2, g3, g4, g5, g6, g7, g8, Nat.reduceEqDiff, Nat.reduceAdd, false_and, and_false, true_and, and_true, reduceIte, nZ0, nZ1]
    split
    · rename_i hc22
      skip
      unfold w_X16_give_34
      try simp only [forall_eq, rII, rIJ, rIP, rJJ, rJI, rJP, rPP, rPI, rPJ, g1, g2, g3, g4, g5, g6, g7, g8, Nat.reduceEqDiff, Nat.reduceAdd, false_and, and_false, true_and, and_true, reduceIte, nZ0, nZ1]
      unfold w_X16_give_70
      try simp only [forall_eq, rII, rIJ, rIP, rJJ, rJI, rJP, rPP, rPI, rPJ, g1, g2, g3, g4, g5, g6, g7, g8, Nat.reduceEqDiff, Nat.reduceAdd, false_and, and_false, true_and, and_true, reduceIte, nZ0, nZ1]
      try rw [if_neg (by decide)]
      unfold w_X16_give_80
      try simp only [forall_eq, rII, rIJ, rIP, rJJ, rJI, rJP, rPP, rPI, rPJ, g1, g2, g3, g4, g5, g6, g7, g8, Nat.reduceEqDiff, Nat.reduceAdd, false_and, and_false, true_and, and_true, reduceIte, nZ0, nZ1]
      refine hQ _ _ ?_ ?_ ?_
      · refine Rg.sI g ?_ (by simp only [rgS]; first | with_reducible exact nZ_rng _ | with_reducible exact nB_rng _ | with_reducible exact wr_rng _ | with_reducible exact i32any _ | (first | omega | with_reducible assumption | (unfold rng; omega) | (unfold rng; (repeat' split) <;> omega) | grind)); exact rσ
      · refine Fr.sI g ?_ (by decide); exact fσ
      · exact trivial
    · rename_i hc22
      skip
      unfold w_X16_give_25
      try simp only [forall_eq, rII, rIJ, rIP, rJJ, rJI, rJP, rPP, rPI, rPJ, g1, g2, g3, g4, g5, g6, g7, g8, Nat.reduceEqDiff, Nat.reduceAdd, false_and, and_false, true_and, and_true, reduceIte, nZ0, nZ1]
      refine ⟨by (first | omega | with_reducible assumption | (unfold rng; omega) | (unfold rng; (repeat' split) <;> omega) | grind), ?_⟩
      have q3 := rσ.1 25 (v1.toNat); simp only [rgT] at q3
      split
      · rename_i hc31
        skip
        unfold w_X16_give_38
        try simp only [forall_eq, rII, rIJ, rIP, rJJ, rJI, rJP, rPP, rPI, rPJ, g1, g2, g3, g4, g5, g6, g7, g8, Nat.reduceEqDiff, Nat.reduceAdd, false_and, and_false, true_and, and_true, reduceIte, nZ0, nZ1]
        refine s_X16_within g rσ (fun r33 p4 => ?_)
        obtain ⟨p4, p4b⟩ := p4
        have p4w : r33 = 1 → 0 ≤ v2 ∧ v2 ≤ 1000000 := fun e => win (by (first | omega | with_reducible assumption | (unfold rng; omega) | (unfold rng; (repeat' split) <;> omega) | grind)) (p4b e)
        try simp only [forall_eq, rII, rIJ, rIP, rJJ, rJI, rJP, rPP, rPI, rPJ, g1, g2, g3, g4, g5, g6, g7, g8, Nat.reduceEqDiff, Nat.reduceAdd, false_and, and_false, true_and, and_true, reduceIte, nZ0, nZ1]
        split
        · rename_i hc47
          skip
          unfold w_X16_give_54
          try simp only [forall_eq, rII, rIJ, rIP, rJJ, rJI, rJP, rPP, rPI, rPJ, g1, g2, g3, g4, g5, g6, g7, g8, Nat.reduceEqDiff, Nat.reduceAdd, false_and, and_false, true_and, and_true, reduceIte, nZ0, nZ1]
          refine ⟨by (first | omega | with_reducible assumption | (unfold rng; omega) | (unfold rng; (repeat' split) <;> omega) | grind), ?_⟩
          have q5 := rσ.1 22 (v1.toNat); simp only [rgT] at q5
          split
          · rename_i hc62
            skip
            unfold w_X16_give_69
            try simp only [forall_eq, rII, rIJ, rIP, rJJ, rJI, rJP, rPP, rPI, rPJ, g1, g2, g3, g4, g5, g6, g7, g8, Nat.reduceEqDiff, Nat.reduceAdd, false_and, and_false, true_and, and_true, reduceIte, nZ0, nZ1]
            unfold w_X16_give_70
            try simp only [forall_eq, rII, rIJ, rIP, rJJ, rJI, rJP, rPP, rPI, rPJ, g1, g2, g3, g4, g5, g6, g7, g8, Nat.reduceEqDiff, Nat.reduceAdd, false_and, and_false, true_and, and_true, reduceIte, nZ0, nZ1]
            try rw [if_pos (by decide)]
            unfold w_X16_give_82
            try simp only [forall_eq, rII, rIJ, rIP, rJJ, rJI, rJP, rPP, rPI, rPJ, g1, g2, g3, g4, g5, g6, g7, g8, Nat.reduceEqDiff, Nat.reduceAdd, false_and, and_false, true_and, and_true, reduceIte, nZ0, nZ1]
            refine ⟨by (first | omega | with_reducible assumption | (unfold rng; omega) | (unfold rng; (repeat' split) <;> omega) | grind), ?_⟩
            refine ⟨by (first | omega | with_reducible assumption | (unfold rng; omega) | (unfold rng; (repeat' split) <;> omega) | grind), ?_⟩
            refine ⟨by (first | omega | with_reducible assumption | (unfold rng; omega) | (unfold rng; (repeat' split) <;> omega) | grind), ?_⟩
            refine ⟨by (first | omega | with_reducible assumption | (unfold rng; omega) | (unfold rng; (repeat' split) <;> omega) | grind), ?_⟩
            refine ⟨by (first | omega | with_reducible assumption | (unfold rng; omega) | (unfold rng; (repeat' split) <;> omega) | grind), ?_⟩
            refine ⟨by (first | omega | with_reducible assumption | (unfold rng; omega) | (unfold rng; (repeat' split) <;> omega) | grind), ?_⟩
            refine ⟨by (first | omega | with_reducible assumption | (unfold rng; omega) | (unfold rng; (repeat' split) <;> omega) | grind), ?_⟩
            refine ⟨by (first | omega | with_reducible assumption | (unfold rng; omega) | (unfold rng; (repeat' split) <;> omega) | grind), ?_⟩
            refine ⟨by (first | omega | with_reducible assumption | (unfold rng; omega) | (unfold rng; (repeat' split) <;> omega) | grind), ?_⟩
            refine ⟨by (first | omega | with_reducible assumption | (unfold rng; omega) | (unfold rng; (repeat' split) <;> omega) | grind), ?_⟩
            refine ⟨by (first | omega | with_reducible assumption | (unfold rng; omega) | (unfold rng; (repeat' split) <;> omega) | grind), ?_⟩
            refine ⟨by (first | omega | with_reducible assumption | (unfold rng; omega) | (unfold rng; (repeat' split) <;> omega) | grind), ?_⟩
            refine ⟨by (first | omega | with_reducible assumption | (unfold rng; omega) | (unfold rng; (repeat' split) <;> omega) | grind), ?_⟩
            refine ⟨by (first | omega | with_reducible assumption | (unfold rng; omega) | (unfold rng; (repeat' split) <;> omega) | grind), ?_⟩
            refine ⟨by (first | omega | with_reducible assumption | (unfold rng; omega) | (unfold rng; (repeat' split) <;> omega) | grind), ?_⟩
            refine ⟨by (first | omega | with_reducible assumption | (unfold rng; omega) | (unfold rng; (repeat' split) <;> omega) | grind), ?_⟩
            refine ⟨by (first | omega | with_reducible assumption | (unfold rng; omega) | (unfold rng; (repeat' split) <;> omega) | grind), ?_⟩
            refine ⟨by (first | omega | with_reducible assumption | (unfold rng; omega) | (unfold rng; (repeat' split) <;> omega) | grind), ?_⟩
            refine ⟨by (first | omega | with_reducible assumption | (unfold rng; omega) | (unfold rng; (repeat' split) <;> omega) | grind), ?_⟩
            refine ⟨by (first | omega | with_reducible assumption | (unfold rng; omega) | (unfold rng; (repeat' split) <;> omega) | grind), ?_⟩
            refine hQ _ _ ?_ ?_ ?_
            · refine Rg.aI g ?_ (by simp only [rgT]; first | with_reducible exact nZ_rng _ | with_reducible exact nB_rng _ | with_reducible exact wr_rng _ | with_reducible exact i32any _ | (first | omega | with_reducible assumption | (unfold rng; omega) | (unfold rng; (repeat' split) <;> omega) | grind)); refine Rg.aJ g ?_ (by simp only [rlT]; first | with_reducible assumption | omega | exact Int64.toInt_le _ | (rw [Int64.toInt_ofInt_of_le (by omega) (by omega)]; omega) | grind); refine Rg.aJ g ?_ (by simp only [rlT]; first | with_reducible assumption | omega | exact Int64.toInt_le _ | (rw [Int64.toInt_ofInt_of_le (by omega) (by omega)]; omega) | grind); refine Rg.aJ g ?_ (by simp only [rlT]; first | with_reducible assumption | omega | exact Int64.toInt_le _ | (rw [Int64.toInt_ofInt_of_le (by omega) (by omega)]; omega) | grind); refine Rg.aJ g ?_ (by simp only [rlT]; first | with_reducible assumption | omega | exact Int64.toInt_le _ | (rw [Int64.toInt_ofInt_of_le (by omega) (by omega)]; omega) | grind); refine Rg.aJ g ?_ (by simp only [rlT]; first | with_reducible assumption | omega | exact Int64.toInt_le _ | (rw [Int64.toInt_ofInt_of_le (by omega) (by omega)]; omega) | grind); refine Rg.sI g ?_ (by simp only [rgS]; first | with_reducible exact nZ_rng _ | with_reducible exact nB_rng _ | with_reducible exact wr_rng _ | with_reducible exact i32any _ | (first | omega | with_reducible assumption | (unfold rng; omega) | (unfold rng; (repeat' split) <;> omega) | grind)); exact rσ
            · refine Fr.aI g ?_ (by decide); refine Fr.aJ g ?_ (by decide); refine Fr.aJ g ?_ (by decide); refine Fr.aJ g ?_ (by decide); refine Fr.aJ g ?_ (by decide); refine Fr.aJ g ?_ (by decide); refine Fr.sI g ?_ (by decide); exact fσ
            · exact trivial
          · rename_i hc62
            skip
            unfold w_X16_give_65
            try simp only [forall_eq, rII, rIJ, rIP, rJJ, rJI, rJP, rPP, rPI, rPJ, g1, g2, g3, g4, g5, g6, g7, g8, Nat.reduceEqDiff, Nat.reduceAdd, false_and, and_false, true_and, and_true, reduceIte, nZ0, nZ1]
            unfold w_X16_give_70
            try simp only [forall_eq, rII, rIJ, rIP, rJJ, rJI, rJP, rPP, rPI, rPJ, g1, g2, g3, g4, g5, g6, g7, g8, Nat.reduceEqDiff, Nat.reduceAdd, false_and, and_false, true_and, and_true, reduceIte, nZ0, nZ1]
            try rw [if_neg (by decide)]
            unfold w_X16_give_80
            try simp only [forall_eq, rII, rIJ, rIP, rJJ, rJI, rJP, rPP, rPI, rPJ, g1, g2, g3, g4, g5, g6, g7, g8, Nat.reduceEqDiff, Nat.reduceAdd, false_and, and_false, true_and, and_true, reduceIte, nZ0, nZ1]
            refine hQ _ _ ?_ ?_ ?_
            · refine Rg.sI g ?_ (by simp only [rgS]; first | with_reducible exact nZ_rng _ | with_reducible exact nB_rng _ | with_reducible exact wr_rng _ | with_reducible exact i32any _ | (first | omega | with_reducible assumption | (unfold rng; omega) | (unfold rng; (repeat' split) <;> omega) | grind)); exact rσ
            · refine Fr.sI g ?_ (by decide); exact fσ
            · exact trivial
        · rename_i hc47
          skip
          unfold w_X16_give_50
          try simp only [forall_eq, rII, rIJ, rIP, rJJ, rJI, rJP, rPP, rPI, rPJ, g1, g2, g3, g4, g5, g6, g7, g8, Nat.reduceEqDiff, Nat.reduceAdd, false_and, and_false, true_and, and_true, reduceIte, nZ0, nZ1]
          unfold w_X16_give_70
          try simp only [forall_eq, rII, rIJ, rIP, rJJ, rJI, rJP, rPP, rPI, rPJ, g1, g2, g3, g4, g5, g6, g7, g8, Nat.reduceEqDiff, Nat.reduceAdd, false_and, and_false, true_and, and_true, reduceIte, nZ0, nZ1]
          try rw [if_neg (by decide)]
          unfold w_X16_give_80
          try simp only [forall_eq, rII, rIJ, rIP, rJJ, rJI, rJP, rPP, rPI, rPJ, g1, g2, g3, g4, g5, g6, g7, g8, Nat.reduceEqDiff, Nat.reduceAdd, false_and, and_false, true_and, and_true, reduceIte, nZ0, nZ1]
          refine hQ _ _ ?_ ?_ ?_
          · refine Rg.sI g ?_ (by simp only [rgS]; first | with_reducible exact nZ_rng _ | with_reducible exact nB_rng _ | with_reducible exact wr_rng _ | with_reducible exact i32any _ | (first | omega | with_reducible assumption | (unfold rng; omega) | (unfold rng; (repeat' split) <;> omega) | grind)); exact rσ
          · refine Fr.sI g ?_ (by decide); exact fσ
          · exact trivial
      · rename_i hc31
        skip
        unfold w_X16_give_34
        try simp only [forall_eq, rII, rIJ, rIP, rJJ, rJI, rJP, rPP, rPI, rPJ, g1, g2, g3, g4, g5, g6, g7, g8, Nat.reduceEqDiff, Nat.reduceAdd, false_and, and_false, true_and, and_true, reduceIte, nZ0, nZ1]
        unfold w_X16_give_70
        try simp only [forall_eq, rII, rIJ, rIP, rJJ, rJI, rJP, rPP, rPI, rPJ, g1, g2, g3, g4, g5, g6, g7, g8, Nat.reduceEqDiff, Nat.reduceAdd, false_and, and_false, true_and, and_true, reduceIte, nZ0, nZ1]
        try rw [if_neg (by decide)]
        unfold w_X16_give_80
        try simp only [forall_eq, rII, rIJ, rIP, rJJ, rJI, rJP, rPP, rPI, rPJ, g1, g2, g3, g4, g5, g6, g7, g8, Nat.reduceEqDiff, Nat.reduceAdd, false_and, and_false, true_and, and_true, reduceIte, nZ0, nZ1]
        refine hQ _ _ ?_ ?_ ?_
        · refine Rg.sI g ?_ (by simp only [rgS]; first | with_reducible exact nZ_rng _ | with_reducible exact nB_rng _ | with_reducible exact wr_rng _ | with_reducible exact i32any _ | (first | omega | with_reducible assumption | (unfold rng; omega) | (unfold rng; (repeat' split) <;> omega) | grind)); exact rσ
        · refine Fr.sI g ?_ (by decide); exact fσ
        · exact trivial
  · rename_i hc10
    skip
    unfold w_X16_give_13
    try simp only [forall_eq, rII, rIJ, rIP, rJJ, rJI, rJP, rPP, rPI, rPJ, g1, g2, g3, g4, g5, g6, g7, g8, Nat.reduceEqDiff, Nat.reduceAdd, false_and, and_false, true_and, and_true, reduceIte, nZ0, nZ1]
    unfold w_X16_give_70
    try simp only [forall_eq, rII, rIJ, rIP, rJJ, rJI, rJP, rPP, rPI, rPJ, g1, g2, g3, g4, g5, g6, g7, g8, Nat.reduceEqDiff, Nat.reduceAdd, false_and, and_false, true_and, and_true, reduceIte, nZ0, nZ1]
    try rw [if_neg (by decide)]
    unfold w_X16_give_80
    try simp only [forall_eq, rII, rIJ, rIP, rJJ, rJI, rJP, rPP, rPI, rPJ, g1, g2, g3, g4, g5, g6, g7, g8, Nat.reduceEqDiff, Nat.reduceAdd, false_and, and_false, true_and, and_true, reduceIte, nZ0, nZ1]
    refine hQ _ _ ?_ ?_ ?_
    · refine Rg.sI g ?_ (by simp only [rgS]; first | with_reducible exact nZ_rng _ | with_reducible exact nB_rng _ | with_reducible exact wr_rng _ | with_reducible exact i32any _ | (first | omega | with_reducible assumption | (unfold rng; omega) | (unfold rng; (repeat' split) <;> omega) | grind)); exact rσ
    · refine Fr.sI g ?_ (by decide); exact fσ
    · exact trivial
set_option maxHeartbeats 2000000 in
theorem s_X16_operator_ {ra : Nat → Nat} {jx : Nat → Nat → Nat} {rm : Nat} {ja : Nat} (g : Geo ra jx rm) {σ : Sg} {v1 : Int} {v2 : Int} (rσ : Rg ra jx rm σ) (hj : gP σ rm 17 = none ∨ gP σ rm 17 = some ja) (hja : ja = ra 15 ∨ ja = ra 16) (hn : 0 ≤ gI σ ja 0 ∧ gI σ ja 0 ≤ 16) (hno : 0 ≤ gI σ ja 1 ∧ gI σ ja 1 ≤ 4) (b1 : -2147483648 ≤ v1 ∧ v1 ≤ 2147483647) (b2 : -2147483648 ≤ v2 ∧ v2 ≤ 2147483647) {Q : Sg → Int64 → Prop} {X : Sg → String → Prop} (hQ : ∀ (σ' : Sg) (r : Int64), Rg ra jx rm σ' → Fr ra jx rm [] [0] σ σ' → (True) → Q σ' r) : wp_X16_operator_ ra jx rm v1 v2 σ Q X := by
  obtain ⟨g1, g2, g3, g4, g5, g6, g7, g8⟩ := id g
  have fσ : Fr ra jx rm [] [0] σ σ := Fr.rf
  unfold wp_X16_operator_
  unfold w_X16_operator__0
  try simp only [forall_eq, rII, rIJ, rIP, rJJ, rJI, rJP, rPP, rPI, rPJ, g1, g2, g3, g4, g5, g6, g7, g8, Nat.reduceEqDiff, Nat.reduceAdd, false_and, and_false, true_and, and_true, reduceIte, nZ0, nZ1]
  split
  · rename_i hc5
    skip
    unfold w_X16_operator__27
    try simp only [forall_eq, rII, rIJ, rIP, rJJ, rJI, rJP, rPP, rPI, rPJ, g1, g2, g3, g4, g5, g6, g7, g8, Nat.reduceEqDiff, Nat.reduceAdd, false_and, and_false, true_and, and_true, reduceIte, nZ0, nZ1]
    unfold w_X16_operator__48
    try simp only [forall_eq, rII, rIJ, rIP, rJJ, rJI, rJP, rPP, rPI, rPJ, g1, g2, g3, g4, g5, g6, g7, g8, Nat.reduceEqDiff, Nat.reduceAdd, false_and, and_false, true_and, and_true, reduceIte, nZ0, nZ1]
    try rw [if_neg (by decide)]
    unfold w_X16_operator__58
    try simp only [forall_eq, rII, rIJ, rIP, rJJ, rJI, rJP, rPP, rPI, rPJ, g1, g2, g3, g4, g5, g6, g7, g8, Nat.reduceEqDiff, Nat.reduceAdd, false_and, and_false, true_and, and_true, reduceIte, nZ0, nZ1]
    refine hQ _ _ ?_ ?_ ?_
    · refine Rg.sI g ?_ (by simp only [rgS]; first | with_reducible exact nZ_rng _ | with_reducible exact nB_rng _ | with_reducible exact wr_rng _ | with_reducible exact i32any _ | (first | omega | with_reducible assumption | (unfold rng; omega) | (unfold rng; (repeat' split) <;> omega) | grind)); exact rσ
    · refine Fr.sI g ?_ (by decide); exact fσ
    · exact trivial
  · rename_i hc5
    skip
    unfold w_X16_operator__8
    try simp only [forall_eq, rII, rIJ, rIP, rJJ, rJI, rJP, rPP, rPI, rPJ, g1, g2, g3, g4, g5, g6, g7, g8, Nat.reduceEqDiff, Nat.reduceAdd, false_and, and_false, true_and, and_true, reduceIte, nZ0, nZ1]
    refine ⟨ja, by exact hj.resolve_left (by assumption), hja, ?_⟩
    refine ⟨by (first | omega | with_reducible assumption | (unfold rng; omega) | (unfold rng; (repeat' split) <;> omega) | grind), ?_⟩
    refine s_X16_within g rσ (fun r28 p2 => ?_)
    obtain ⟨p2, p2b⟩ := p2
    have p2w : r28 = 1 → 0 ≤ v1 ∧ v1 ≤ ((gI σ ja 0) - 1) := fun e => win2 (by (first | omega | with_reducible assumption | (unfold rng; omega) | (unfold rng; (repeat' split) <;> omega) | grind)) (by (first | omega | with_reducible assumption | (unfold rng; omega) | (unfold rng; (repeat' split) <;> omega) | grind)) (by (first | omega | with_reducible assumption | (unfold rng; omega) | (unfold rng; (repeat' split) <;> omega) | grind)) (p2b e)
    try simp only [forall_eq, rII, rIJ, rIP, rJJ, rJI, rJP, rPP, rPI, rPJ, g1, g2, g3, g4, g5, g6, g7, g8, Nat.reduceEqDiff, Nat.reduceAdd, false_and, and_false, true_and, and_true, reduceIte, nZ0, nZ1]
    split
    · rename_i hc24
      skip
      unfold w_X16_operator__31
      try simp only [forall_eq, rII, rIJ, rIP, rJJ, rJI, rJP, rPP, rPI, rPJ, g1, g2, g3, g4, g5, g6, g7, g8, Nat.reduceEqDiff, Nat.reduceAdd, false_and, and_false, true_and, and_true, reduceIte, nZ0, nZ1]
      refine s_X16_within g rσ (fun r30 p3 => ?_)
      obtain ⟨p3, p3b⟩ := p3
      have p3w : r30 = 1 → 0 ≤ v2 ∧ v2 ≤ 11 := fun e => win (by (first | omega | with_reducible assumption | (unfold rng; omega) | (unfold rng; (repeat' split) <;> omega) | grind)) (p3b e)
      try simp only [forall_eq, rII, rIJ, rIP, rJJ, rJI, rJP, rPP, rPI, rPJ, g1, g2, g3, g4, g5, g6, g7, g8, Nat.reduceEqDiff, Nat.reduceAdd, false_and, and_false, true_and, and_true, reduceIte, nZ0, nZ1]
      split
      · rename_i hc40
        skip
        unfold w_X16_operator__47
        try simp only [forall_eq, rII, rIJ, rIP, rJJ, rJI, rJP, rPP, rPI, rPJ, g1, g2, g3, g4, g5, g6, g7, g8, Nat.reduceEqDiff, Nat.reduceAdd, false_and, and_false, true_and, and_true, reduceIte, nZ0, nZ1]
        unfold w_X16_operator__48
        try simp only [forall_eq, rII, rIJ, rIP, rJJ, rJI, rJP, rPP, rPI, rPJ, g1, g2, g3, g4, g5, g6, g7, g8, Nat.reduceEqDiff, Nat.reduceAdd, false_and, and_false, true_and, and_true, reduceIte, nZ0, nZ1]
        try rw [if_pos (by decide)]
        unfold w_X16_operator__60
        try simp only [forall_eq, rII, rIJ, rIP, rJJ, rJI, rJP, rPP, rPI, rPJ, g1, g2, g3, g4, g5, g6, g7, g8, Nat.reduceEqDiff, Nat.reduceAdd, false_and, and_false, true_and, and_true, reduceIte, nZ0, nZ1]
        split
        · rename_i hc61
          skip
          unfold w_X16_operator__77
          try simp only [forall_eq, rII, rIJ, rIP, rJJ, rJI, rJP, rPP, rPI, rPJ, g1, g2, g3, g4, g5, g6, g7, g8, Nat.reduceEqDiff, Nat.reduceAdd, false_and, and_false, true_and, and_true, reduceIte, nZ0, nZ1]
          split
          · rename_i hc79
            skip
            unfold w_X16_operator__95
            try simp only [forall_eq, rII, rIJ, rIP, rJJ, rJI, rJP, rPP, rPI, rPJ, g1, g2, g3, g4, g5, g6, g7, g8, Nat.reduceEqDiff, Nat.reduceAdd, false_and, and_false, true_and, and_true, reduceIte, nZ0, nZ1]
            split
            · rename_i hc97
              skip
              unfold w_X16_operator__113
              try simp only [forall_eq, rII, rIJ, rIP, rJJ, rJI, rJP, rPP, rPI, rPJ, g1, g2, g3, g4, g5, g6, g7, g8, Nat.reduceEqDiff, Nat.reduceAdd, false_and, and_false, true_and, and_true, reduceIte, nZ0, nZ1]
              split
              · rename_i hc115
                skip
                unfold w_X16_operator__131
                try simp only [forall_eq, rII, rIJ, rIP, rJJ, rJI, rJP, rPP, rPI, rPJ, g1, g2, g3, g4, g5, g6, g7, g8, Nat.reduceEqDiff, Nat.reduceAdd, false_and, and_false, true_and, and_true, reduceIte, nZ0, nZ1]
                refine ⟨by (first | omega | with_reducible assumption | (unfold rng; omega) | (unfold rng; (repeat' split) <;> omega) | grind), ?_⟩
                refine ⟨ja, by exact hj.resolve_left (by assumption), hja, ?_⟩
                refine ⟨by (first | omega | with_reducible assumption | (unfold rng; omega) | (unfold rng; (repeat' split) <;> omega) | grind), ?_⟩
                have q4 := rσ.2.2.1 ja 6 (v1.toNat); simp only [rgJ] at q4
                split
                · rename_i hc143
                  skip
                  unfold w_X16_operator__165
                  try simp only [forall_eq, rII, rIJ, rIP, rJJ, rJI, rJP, rPP, rPI, rPJ, g1, g2, g3, g4, g5, g6, g7, g8, Nat.reduceEqDiff, Nat.reduceAdd, false_and, and_false, true_and, and_true, reduceIte, nZ0, nZ1]
                  unfold w_X16_operator__166
                  try simp only [forall_eq, rII, rIJ, rIP, rJJ, rJI, rJP, rPP, rPI, rPJ, g1, g2, g3, g4, g5, g6, g7, g8, Nat.reduceEqDiff, Nat.reduceAdd, false_and, and_false, true_and, and_true, reduceIte, nZ0, nZ1]
                  refine hQ _ _ ?_ ?_ ?_
                  · refine Rg.sI g ?_ (by simp only [rgS]; first | with_reducible exact nZ_rng _ | with_reducible exact nB_rng _ | with_reducible exact wr_rng _ | with_reducible exact i32any _ | (first | omega | with_reducible assumption | (unfold rng; omega) | (unfold rng; (repeat' split) <;> omega) | grind)); exact rσ
                  · refine Fr.sI g ?_ (by decide); exact fσ
                  · exact trivial
                · rename_i hc143
                  skip
                  unfold w_X16_operator__146
                  try simp only [forall_eq, rII, rIJ, rIP, rJJ, rJI, rJP, rPP, rPI, rPJ, g1, g2, g3, g4, g5, g6, g7, g8, Nat.reduceEqDiff, Nat.reduceAdd, false_and, and_false, true_and, and_true, reduceIte, nZ0, nZ1]
                  refine ⟨ja, by exact hj.resolve_left (by assumption), hja, ?_⟩
                  refine ⟨by (first | omega | with_reducible assumption | (unfold rng; omega) | (unfold rng; (repeat' split) <;> omega) | grind), ?_⟩
                  refine ⟨by (first | omega | with_reducible assumption | (unfold rng; omega) | (unfold rng; (repeat' split) <;> omega) | grind), ?_⟩
                  refine ⟨by (first | omega | with_reducible assumption | (unfold rng; omega) | (unfold rng; (repeat' split) <;> omega) | grind), ?_⟩
                  refine ⟨by (first | omega | with_reducible assumption | (unfold rng; omega) | (unfold rng; (repeat' split) <;> omega) | grind), ?_⟩
                  unfold w_X16_operator__166
                  try simp only [forall_eq, rII, rIJ, rIP, rJJ, rJI, rJP, rPP, rPI, rPJ, g1, g2, g3, g4, g5, g6, g7, g8, Nat.reduceEqDiff, Nat.reduceAdd, false_and, and_false, true_and, and_true, reduceIte, nZ0, nZ1]
                  refine hQ _ _ ?_ ?_ ?_
                  · refine Rg.sI g ?_ (by simp only [rgS]; first | with_reducible exact nZ_rng _ | with_reducible exact nB_rng _ | with_reducible exact wr_rng _ | with_reducible exact i32any _ | (first | omega | with_reducible assumption | (unfold rng; omega) | (unfold rng; (repeat' split) <;> omega) | grind)); exact rσ
                  · refine Fr.sI g ?_ (by decide); exact fσ
                  · exact trivial
              · rename_i hc115
                skip
                unfold w_X16_operator__118
                try simp only [forall_eq, rII, rIJ, rIP, rJJ, rJI, rJP, rPP, rPI, rPJ, g1, g2, g3, g4, g5, g6, g7, g8, Nat.reduceEqDiff, Nat.reduceAdd, false_and, and_false, true_and, and_true, reduceIte, nZ0, nZ1]
                refine ⟨ja, by exact hj.resolve_left (by assumption), hja, ?_⟩
                refine ⟨by (first | omega | with_reducible assumption | (unfold rng; omega) | (unfold rng; (repeat' split) <;> omega) | grind), ?_⟩
                unfold w_X16_operator__166
                try simp only [forall_eq, rII, rIJ, rIP, rJJ, rJI, rJP, rPP, rPI, rPJ, g1, g2, g3, g4, g5, g6, g7, g8, Nat.reduceEqDiff, Nat.reduceAdd, false_and, and_false, true_and, and_true, reduceIte, nZ0, nZ1]
                refine hQ _ _ ?_ ?_ ?_
                · refine Rg.sI g ?_ (by simp only [rgS]; first | with_reducible exact nZ_rng _ | with_reducible exact nB_rng _ | with_reducible exact wr_rng _ | with_reducible exact i32any _ | (first | omega | with_reducible assumption | (unfold rng; omega) | (unfold rng; (repeat' split) <;> omega) | grind)); exact rσ
                · refine Fr.sI g ?_ (by decide); exact fσ
                · exact trivial
            · rename_i hc97
              skip
              unfold w_X16_operator__100
              try simp only [forall_eq, rII, rIJ, rIP, rJJ, rJI, rJP, rPP, rPI, rPJ, g1, g2, g3, g4, g5, g6, g7, g8, Nat.reduceEqDiff, Nat.reduceAdd, false_and, and_false, true_and, and_true, reduceIte, nZ0, nZ1]
              refine ⟨ja, by exact hj.resolve_left (by assumption), hja, ?_⟩
              refine ⟨by (first | omega | with_reducible assumption | (unfold rng; omega) | (unfold rng; (repeat' split) <;> omega) | grind), ?_⟩
              unfold w_X16_operator__166
              try simp only [forall_eq, rII, rIJ, rIP, rJJ, rJI, rJP, rPP, rPI, rPJ, g1, g2, g3, g4, g5, g6, g7, g8, Nat.reduceEqDiff, Nat.reduceAdd, false_and, and_false, true_and, and_true, reduceIte, nZ0, nZ1]
              refine hQ _ _ ?_ ?_ ?_
              · refine Rg.sI g ?_ (by simp only [rgS]; first | with_reducible exact nZ_rng _ | with_reducible exact nB_rng _ | with_reducible exact wr_rng _ | with_reducible exact i32any _ | (first | omega | with_reducible assumption | (unfold rng; omega) | (unfold rng; (repeat' split) <;> omega) | grind)); exact rσ
              · refine Fr.sI g ?_ (by decide); exact fσ
              · exact trivial
          · rename_i hc79
            skip
            unfold w_X16_operator__82
            try simp only [forall_eq, rII, rIJ, rIP, rJJ, rJI, rJP, rPP, rPI, rPJ, g1, g2, g3, g4, g5, g6, g7, g8, Nat.reduceEqDiff, Nat.reduceAdd, false_and, and_false, true_and, and_true, reduceIte, nZ0, nZ1]
            refine ⟨ja, by exact hj.resolve_left (by assumption), hja, ?_⟩
            refine ⟨by (first | omega | with_reducible assumption | (unfold rng; omega) | (unfold rng; (repeat' split) <;> omega) | grind), ?_⟩
            unfold w_X16_operator__166
            try simp only [forall_eq, rII, rIJ, rIP, rJJ, rJI, rJP, rPP, rPI, rPJ, g1, g2, g3, g4, g5, g6, g7, g8, Nat.reduceEqDiff, Nat.reduceAdd, false_and, and_false, true_and, and_true, reduceIte, nZ0, nZ1]
            refine hQ _ _ ?_ ?_ ?_
            · refine Rg.sI g ?_ (by simp only [rgS]; first | with_reducible exact nZ_rng _ | with_reducible exact nB_rng _ | with_reducible exact wr_rng _ | with_reducible exact i32any _ | (first | omega | with_reducible assumption | (unfold rng; omega) | (unfold rng; (repeat' split) <;> omega) | grind)); exact rσ
            · refine Fr.sI g ?_ (by decide); exact fσ
            · exact trivial
        · rename_i hc61
          skip
          unfold w_X16_operator__64
          try simp only [forall_eq, rII, rIJ, rIP, rJJ, rJI, rJP, rPP, rPI, rPJ, g1, g2, g3, g4, g5, g6, g7, g8, Nat.reduceEqDiff, Nat.reduceAdd, false_and, and_false, true_and, and_true, reduceIte, nZ0, nZ1]
          refine ⟨ja, by exact hj.resolve_left (by assumption), hja, ?_⟩
          refine ⟨by (first | omega | with_reducible assumption | (unfold rng; omega) | (unfold rng; (repeat' split) <;> omega) | grind), ?_⟩
          unfold w_X16_operator__166
          try simp only [forall_eq, rII, rIJ, rIP, rJJ, rJI, rJP, rPP, rPI, rPJ, g1, g2, g3, g4, g5, g6, g7, g8, Nat.reduceEqDiff, Nat.reduceAdd, false_and, and_false, true_and, and_true, reduceIte, nZ0, nZ1]
          refine hQ _ _ ?_ ?_ ?_
          · refine Rg.sI g ?_ (by simp only [rgS]; first | with_reducible exact nZ_rng _ | with_reducible exact nB_rng _ | with_reducible exact wr_rng _ | with_reducible exact i32any _ | (first | omega | with_reducible assumption | (unfold rng; omega) | (unfold rng; (repeat' split) <;> omega) | grind)); exact rσ
          · refine Fr.sI g ?_ (by decide); exact fσ
          · exact trivial
      · rename_i hc40
        skip
        unfold w_X16_operator__43
        try simp only [forall_eq, rII, rIJ, rIP, rJJ, rJI, rJP, rPP, rPI, rPJ, g1, g2, g3, g4, g5, g6, g7, g8, Nat.reduceEqDiff, Nat.reduceAdd, false_and, and_false, true_and, and_true, reduceIte, nZ0, nZ1]
        unfold w_X16_operator__48
        try simp only [forall_eq, rII, rIJ, rIP, rJJ, rJI, rJP, rPP, rPI, rPJ, g1, g2, g3, g4, g5, g6, g7, g8, Nat.reduceEqDiff, Nat.reduceAdd, false_and, and_false, true_and, and_true, reduceIte, nZ0, nZ1]
        try rw [if_neg (by decide)]
        unfold w_X16_operator__58
        try simp only [forall_eq, rII, rIJ, rIP, rJJ, rJI, rJP, rPP, rPI, rPJ, g1, g2, g3, g4, g5, g6, g7, g8, Nat.reduceEqDiff, Nat.reduceAdd, false_and, and_false, true_and, and_true, reduceIte, nZ0, nZ1]
        refine hQ _ _ ?_ ?_ ?_
        · refine Rg.sI g ?_ (by simp only [rgS]; first | with_reducible exact nZ_rng _ | with_reducible exact nB_rng _ | with_reducible exact wr_rng _ | with_reducible exact i32any _ | (first | omega | with_reducible assumption | (unfold rng; omega) | (unfold rng; (repeat' split) <;> omega) | grind)); exact rσ
        · refine Fr.sI g ?_ (by decide); exact fσ
        · exact trivial
    · rename_i hc24
      skip
      unfold w_X16_operator__27
      try simp only [forall_eq, rII, rIJ, rIP, rJJ, rJI, rJP, rPP, rPI, rPJ, g1, g2, g3, g4, g5, g6, g7, g8, Nat.reduceEqDiff, Nat.reduceAdd, false_and, and_false, true_and, and_true, reduceIte, nZ0, nZ1]
      unfold w_X16_operator__48
      try simp only [forall_eq, rII, rIJ, rIP, rJJ, rJI, rJP, rPP, rPI, rPJ, g1, g2, g3, g4, g5, g6, g7, g8, Nat.reduceEqDiff, Nat.reduceAdd, false_and, and_false, true_and, and_true, reduceIte, nZ0, nZ1]
      try rw [if_neg (by decide)]
      unfold w_X16_operator__58
      try simp only [forall_eq, rII, rIJ, rIP, rJJ, rJI, rJP, rPP, rPI, rPJ, g1, g2, g3, g4, g5, g6, g7, g8, Nat.reduceEqDiff, Nat.reduceAdd, false_and, and_false, true_and, and_true, reduceIte, nZ0, nZ1]
      refine hQ _ _ ?_ ?_ ?_
      · refine Rg.sI g ?_ (by simp only [rgS]; first | with_reducible exact nZ_rng _ | with_reducible exact nB_rng _ | with_reducible exact wr_rng _ | with_reducible exact i32any _ | (first | omega | with_reducible assumption | (unfold rng; omega) | (unfold rng; (repeat' split) <;> omega) | grind)); exact rσ
      · refine Fr.sI g ?_ (by decide); exact fσ
      · exact trivial
set_option maxHeartbeats 2000000 in
theorem s_X16_close {ra : Nat → Nat} {jx : Nat → Nat → Nat} {rm : Nat} {ja : Nat} (g : Geo ra jx rm) {σ : Sg} {v1 : Int} (rσ : Rg ra jx rm σ) (hj : gP σ rm 17 = none ∨ gP σ rm 17 = some ja) (hja : ja = ra 15 ∨ ja = ra 16) (hn : 0 ≤ gI σ ja 0 ∧ gI σ ja 0 ≤ 16) (hno : 0 ≤ gI σ ja 1 ∧ gI σ ja 1 ≤ 4) (b1 : -2147483648 ≤ v1 ∧ v1 ≤ 2147483647) {Q : Sg → Int → Prop} {X : Sg → String → Prop} (hQ : ∀ (σ' : Sg) (r : Int), Rg ra jx rm σ' → Fr ra jx rm [25] [0] σ σ' → (True) → Q σ' r) : wp_X16_close ra jx rm v1 σ Q X := by
  obtain ⟨g1, g2, g3, g4, g5, g6, g7, g8⟩ := id g
  have fσ : Fr ra jx rm [25] [0] σ σ := Fr.rf
  unfold wp_X16_close
  unfold w_X16_close_0
  try simp only [forall_eq, rII, rIJ, rIP, rJJ, rJI, rJP, rPP, rPI, rPJ, g1, g2, g3, g4, g5, g6, g7, g8, Nat.reduceEqDiff, Nat.reduceAdd, false_and, and_false, true_and, and_true, reduceIte, nZ0, nZ1]
  refine s_X16_within g rσ (fun r14 p1 => ?_)
  obtain ⟨p1, p1b⟩ := p1
  have p1w : r14 = 1 → 0 ≤ v1 ∧ v1 ≤ 3 := fun e => win (by (first | omega | with_reducible assumption | (unfold rng; omega) | (unfold rng; (repeat' split) <;> omega) | grind)) (p1b e)
  try simp only [forall_eq, rII, rIJ, rIP, rJJ, rJI, rJP, rPP, rPI, rPJ, g1, g2, g3, g4, g5, g6, g7, g8, Nat.reduceEqDiff, Nat.reduceAdd, false_and, and_false, true_and, and_true, reduceIte, nZ0, nZ1]
  split
  · rename_i hc10
    skip
    unfold w_X16_close_17
    try simp only [forall_eq, rII, rIJ, rIP, rJJ, rJI, rJP, rPP, rPI, rPJ, g1, g2, g3, g4, g5, g6, g7, g8, Nat.reduceEqDiff, Nat.reduceAdd, false_and, and_false, true_and, and_true, reduceIte, nZ0, nZ1]
    refine s_X16_hasSource g rσ (by exact hj) hja (by (try simp only [rII, rIJ, rIP, rJJ, rJI, rJP, rPP, rPI, rPJ, g1, g2, g3, g4, g5, g6, g7, g8, Nat.reduceEqDiff, Nat.reduceAdd, false_and, and_false, true_and, and_true, reduceIte, nZ0, nZ1]) <;> (first | omega | with_reducible assumption | (unfold rng; omega) | (unfold rng; (repeat' split) <;> omega) | grind)) (fun r16 p2 => ?_)
    try simp only [forall_eq, rII, rIJ, rIP, rJJ, rJI, rJP, rPP, rPI, rPJ, g1, g2, g3, g4, g5, g6, g7, g8, Nat.reduceEqDiff, Nat.reduceAdd, false_and, and_false, true_and, and_true, reduceIte, nZ0, nZ1]
    split
    · rename_i hc22
      skip
      unfold w_X16_close_29
      try simp only [forall_eq, rII, rIJ, rIP, rJJ, rJI, rJP, rPP, rPI, rPJ, g1, g2, g3, g4, g5, g6, g7, g8, Nat.reduceEqDiff, Nat.reduceAdd, false_and, and_false, true_and, and_true, reduceIte, nZ0, nZ1]
      unfold w_X16_close_30
      try simp only [forall_eq, rII, rIJ, rIP, rJJ, rJI, rJP, rPP, rPI, rPJ, g1, g2, g3, g4, g5, g6, g7, g8, Nat.reduceEqDiff, Nat.reduceAdd, false_and, and_false, true_and, and_true, reduceIte, nZ0, nZ1]
      try rw [if_pos (by decide)]
      unfold w_X16_close_42
      try simp only [forall_eq, rII, rIJ, rIP, rJJ, rJI, rJP, rPP, rPI, rPJ, g1, g2, g3, g4, g5, g6, g7, g8, Nat.reduceEqDiff, Nat.reduceAdd, false_and, and_false, true_and, and_true, reduceIte, nZ0, nZ1]
      refine ⟨by (first | omega | with_reducible assumption | (unfold rng; omega) | (unfold rng; (repeat' split) <;> omega) | grind), ?_⟩
      refine ⟨by (first | omega | with_reducible assumption | (unfold rng; omega) | (unfold rng; (repeat' split) <;> omega) | grind), ?_⟩
      have q3 := rσ.1 25 (v1.toNat); simp only [rgT] at q3
      split
      · rename_i hc57
        skip
        unfold w_X16_close_64
        try simp only [forall_eq, rII, rIJ, rIP, rJJ, rJI, rJP, rPP, rPI, rPJ, g1, g2, g3, g4, g5, g6, g7, g8, Nat.reduceEqDiff, Nat.reduceAdd, false_and, and_false, true_and, and_true, reduceIte, nZ0, nZ1]
        unfold w_X16_close_65
        try simp only [forall_eq, rII, rIJ, rIP, rJJ, rJI, rJP, rPP, rPI, rPJ, g1, g2, g3, g4, g5, g6, g7, g8, Nat.reduceEqDiff, Nat.reduceAdd, false_and, and_false, true_and, and_true, reduceIte, nZ0, nZ1]
        refine ⟨by (first | omega | with_reducible assumption | (unfold rng; omega) | (unfold rng; (repeat' split) <;> omega) | grind), ?_⟩
        refine hQ _ _ ?_ ?_ ?_
        · refine Rg.aI g ?_ (by simp only [rgT]; first | with_reducible exact nZ_rng _ | with_reducible exact nB_rng _ | with_reducible exact wr_rng _ | with_reducible exact i32any _ | (first | omega | with_reducible assumption | (unfold rng; omega) | (unfold rng; (repeat' split) <;> omega) | grind)); refine Rg.sI g ?_ (by simp only [rgS]; first | with_reducible exact nZ_rng _ | with_reducible exact nB_rng _ | with_reducible exact wr_rng _ | with_reducible exact i32any _ | (first | omega | with_reducible assumption | (unfold rng; omega) | (unfold rng; (repeat' split) <;> omega) | grind)); exact rσ
        · refine Fr.aI g ?_ (by decide); refine Fr.sI g ?_ (by decide); exact fσ
        · exact trivial
      · rename_i hc57
        skip
        unfold w_X16_close_60
        try simp only [forall_eq, rII, rIJ, rIP, rJJ, rJI, rJP, rPP, rPI, rPJ, g1, g2, g3, g4, g5, g6, g7, g8, Nat.reduceEqDiff, Nat.reduceAdd, false_and, and_false, true_and, and_true, reduceIte, nZ0, nZ1]
        unfold w_X16_close_65
        try simp only [forall_eq, rII, rIJ, rIP, rJJ, rJI, rJP, rPP, rPI, rPJ, g1, g2, g3, g4, g5, g6, g7, g8, Nat.reduceEqDiff, Nat.reduceAdd, false_and, and_false, true_and, and_true, reduceIte, nZ0, nZ1]
        refine ⟨by (first | omega | with_reducible assumption | (unfold rng; omega) | (unfold rng; (repeat' split) <;> omega) | grind), ?_⟩
        refine hQ _ _ ?_ ?_ ?_
        · refine Rg.aI g ?_ (by simp only [rgT]; first | with_reducible exact nZ_rng _ | with_reducible exact nB_rng _ | with_reducible exact wr_rng _ | with_reducible exact i32any _ | (first | omega | with_reducible assumption | (unfold rng; omega) | (unfold rng; (repeat' split) <;> omega) | grind)); refine Rg.sI g ?_ (by simp only [rgS]; first | with_reducible exact nZ_rng _ | with_reducible exact nB_rng _ | with_reducible exact wr_rng _ | with_reducible exact i32any _ | (first | omega | with_reducible assumption | (unfold rng; omega) | (unfold rng; (repeat' split) <;> omega) | grind)); exact rσ
        · refine Fr.aI g ?_ (by decide); refine Fr.sI g ?_ (by decide); exact fσ
        · exact trivial
    · rename_i hc22
      skip
      unfold w_X16_close_25
      try simp only [forall_eq, rII, rIJ, rIP, rJJ, rJI, rJP, rPP, rPI, rPJ, g1, g2, g3, g4, g5, g6, g7, g8, Nat.reduceEqDiff, Nat.reduceAdd, false_and, and_false, true_and, and_true, reduceIte, nZ0, nZ1]
      unfold w_X16_close_30
      try simp only [forall_eq, rII, rIJ, rIP, rJJ, rJI, rJP, rPP, rPI, rPJ, g1, g2, g3, g4, g5, g6, g7, g8, Nat.reduceEqDiff, Nat.reduceAdd, false_and, and_false, true_and, and_true, reduceIte, nZ0, nZ1]
      try rw [if_neg (by decide)]
      unfold w_X16_close_40
      try simp only [forall_eq, rII, rIJ, rIP, rJJ, rJI, rJP, rPP, rPI, rPJ, g1, g2, g3, g4, g5, g6, g7, g8, Nat.reduceEqDiff, Nat.reduceAdd, false_and, and_false, true_and, and_true, reduceIte, nZ0, nZ1]
      refine hQ _ _ ?_ ?_ ?_
      · refine Rg.sI g ?_ (by simp only [rgS]; first | with_reducible exact nZ_rng _ | with_reducible exact nB_rng _ | with_reducible exact wr_rng _ | with_reducible exact i32any _ | (first | omega | with_reducible assumption | (unfold rng; omega) | (unfold rng; (repeat' split) <;> omega) | grind)); exact rσ
      · refine Fr.sI g ?_ (by decide); exact fσ
      · exact trivial
  · rename_i hc10
    skip
    unfold w_X16_close_13
    try simp only [forall_eq, rII, rIJ, rIP, rJJ, rJI, rJP, rPP, rPI, rPJ, g1, g2, g3, g4, g5, g6, g7, g8, Nat.reduceEqDiff, Nat.reduceAdd, false_and, and_false, true_and, and_true, reduceIte, nZ0, nZ1]
    unfold w_X16_close_30
    try simp only [forall_eq, rII, rIJ, rIP, rJJ, rJI, rJP, rPP, rPI, rPJ, g1, g2, g3, g4, g5, g6, g7, g8, Nat.reduceEqDiff, Nat.reduceAdd, false_and, and_false, true_and, and_true, reduceIte, nZ0, nZ1]
    try rw [if_neg (by decide)]
    unfold w_X16_close_40
    try simp only [forall_eq, rII, rIJ, rIP, rJJ, rJI, rJP, rPP, rPI, rPJ, g1, g2, g3, g4, g5, g6, g7, g8, Nat.reduceEqDiff, Nat.reduceAdd, false_and, and_false, true_and, and_true, reduceIte, nZ0, nZ1]
    refine hQ _ _ ?_ ?_ ?_
    · refine Rg.sI g ?_ (by simp only [rgS]; first | with_reducible exact nZ_rng _ | with_reducible exact nB_rng _ | with_reducible exact wr_rng _ | with_reducible exact i32any _ | (first | omega | with_reducible assumption | (unfold rng; omega) | (unfold rng; (repeat' split) <;> omega) | grind)); exact rσ
    · refine Fr.sI g ?_ (by decide); exact fσ
    · exact trivial
set_option maxHeartbeats 2000000 in
theorem s_X16_visible {ra : Nat → Nat} {jx : Nat → Nat → Nat} {rm : Nat} {ja : Nat} (g : Geo ra jx rm) {σ : Sg} {v1 : Int} (rσ : Rg ra jx rm σ) (hj : gP σ rm 17 = none ∨ gP σ rm 17 = some ja) (hja : ja = ra 15 ∨ ja = ra 16) (hn : 0 ≤ gI σ ja 0 ∧ gI σ ja 0 ≤ 16) (hno : 0 ≤ gI σ ja 1 ∧ gI σ ja 1 ≤ 4) (b1 : -2147483648 ≤ v1 ∧ v1 ≤ 2147483647) {Q : Sg → Int → Prop} {X : Sg → String → Prop} (hQ : ∀ (σ' : Sg) (r : Int), Rg ra jx rm σ' → Fr ra jx rm [] [0] σ σ' → (True) → Q σ' r) : wp_X16_visible ra jx rm v1 σ Q X := by
  obtain ⟨g1, g2, g3, g4, g5, g6, g7, g8⟩ := id g
  have fσ : Fr ra jx rm [] [0] σ σ := Fr.rf
  unfold wp_X16_visible
  unfold w_X16_visible_0
  try simp only [forall_eq, rII, rIJ, rIP, rJJ, rJI, rJP, rPP, rPI, rPJ, g1, g2, g3, g4, g5, g6, g7, g8, Nat.reduceEqDiff, Nat.reduceAdd, false_and, and_false, true_and, and_true, reduceIte, nZ0, nZ1]
  refine s_X16_isOutput g rσ (by exact hj) hja (by exact hno) (by (try simp only [rII, rIJ, rIP, rJJ, rJI, rJP, rPP, rPI, rPJ, g1, g2, g3, g4, g5, g6, g7, g8, Nat.reduceEqDiff, Nat.reduceAdd, false_and, and_false, true_and, and_true, reduceIte, nZ0, nZ1]) <;> (first | omega | with_reducible assumption | (unfold rng; omega) | (unfold rng; (repeat' split) <;> omega) | grind)) (fun r8 p1 => ?_)
  try simp only [forall_eq, rII, rIJ, rIP, rJJ, rJI, rJP, rPP, rPI, rPJ, g1, g2, g3, g4, g5, g6, g7, g8, Nat.reduceEqDiff, Nat.reduceAdd, false_and, and_false, true_and, and_true, reduceIte, nZ0, nZ1]
  split
  · rename_i hc6
    skip
    unfold w_X16_visible_13
    try simp only [forall_eq, rII, rIJ, rIP, rJJ, rJI, rJP, rPP, rPI, rPJ, g1, g2, g3, g4, g5, g6, g7, g8, Nat.reduceEqDiff, Nat.reduceAdd, false_and, and_false, true_and, and_true, reduceIte, nZ0, nZ1]
    unfold w_X16_visible_14
    try simp only [forall_eq, rII, rIJ, rIP, rJJ, rJI, rJP, rPP, rPI, rPJ, g1, g2, g3, g4, g5, g6, g7, g8, Nat.reduceEqDiff, Nat.reduceAdd, false_and, and_false, true_and, and_true, reduceIte, nZ0, nZ1]
    try rw [if_neg (by decide)]
    unfold w_X16_visible_24
    try simp only [forall_eq, rII, rIJ, rIP, rJJ, rJI, rJP, rPP, rPI, rPJ, g1, g2, g3, g4, g5, g6, g7, g8, Nat.reduceEqDiff, Nat.reduceAdd, false_and, and_false, true_and, and_true, reduceIte, nZ0, nZ1]
    unfold w_X16_visible_38
    try simp only [forall_eq, rII, rIJ, rIP, rJJ, rJI, rJP, rPP, rPI, rPJ, g1, g2, g3, g4, g5, g6, g7, g8, Nat.reduceEqDiff, Nat.reduceAdd, false_and, and_false, true_and, and_true, reduceIte, nZ0, nZ1]
    refine hQ _ _ ?_ ?_ ?_
    · refine Rg.sI g ?_ (by simp only [rgS]; first | with_reducible exact nZ_rng _ | with_reducible exact nB_rng _ | with_reducible exact wr_rng _ | with_reducible exact i32any _ | (first | omega | with_reducible assumption | (unfold rng; omega) | (unfold rng; (repeat' split) <;> omega) | grind)); exact rσ
    · refine Fr.sI g ?_ (by decide); exact fσ
    · exact trivial
  · rename_i hc6
    skip
    unfold w_X16_visible_9
    try simp only [forall_eq, rII, rIJ, rIP, rJJ, rJI, rJP, rPP, rPI, rPJ, g1, g2, g3, g4, g5, g6, g7, g8, Nat.reduceEqDiff, Nat.reduceAdd, false_and, and_false, true_and, and_true, reduceIte, nZ0, nZ1]
    unfold w_X16_visible_14
    try simp only [forall_eq, rII, rIJ, rIP, rJJ, rJI, rJP, rPP, rPI, rPJ, g1, g2, g3, g4, g5, g6, g7, g8, Nat.reduceEqDiff, Nat.reduceAdd, false_and, and_false, true_and, and_true, reduceIte, nZ0, nZ1]
    try rw [if_pos (by decide)]
    unfold w_X16_visible_28
    try simp only [forall_eq, rII, rIJ, rIP, rJJ, rJI, rJP, rPP, rPI, rPJ, g1, g2, g3, g4, g5, g6, g7, g8, Nat.reduceEqDiff, Nat.reduceAdd, false_and, and_false, true_and, and_true, reduceIte, nZ0, nZ1]
    refine ⟨by (first | omega | with_reducible assumption | (unfold rng; omega) | (unfold rng; (repeat' split) <;> omega) | grind), ?_⟩
    refine ⟨by (first | omega | with_reducible assumption | (unfold rng; omega) | (unfold rng; (repeat' split) <;> omega) | grind), ?_⟩
    refine ⟨by (first | omega | with_reducible assumption | (unfold rng; omega) | (unfold rng; (repeat' split) <;> omega) | grind), ?_⟩
    unfold w_X16_visible_38
    try simp only [forall_eq, rII, rIJ, rIP, rJJ, rJI, rJP, rPP, rPI, rPJ, g1, g2, g3, g4, g5, g6, g7, g8, Nat.reduceEqDiff, Nat.reduceAdd, false_and, and_false, true_and, and_true, reduceIte, nZ0, nZ1]
    have q2 := rσ.1 89 (((3 * v1) + 2).toNat); simp only [rgT] at q2
    refine hQ _ _ ?_ ?_ ?_
    · refine Rg.sI g ?_ (by simp only [rgS]; first | with_reducible exact nZ_rng _ | with_reducible exact nB_rng _ | with_reducible exact wr_rng _ | with_reducible exact i32any _ | (first | omega | with_reducible assumption | (unfold rng; omega) | (unfold rng; (repeat' split) <;> omega) | grind)); exact rσ
    · refine Fr.sI g ?_ (by decide); exact fσ
    · exact trivial
set_option maxHeartbeats 2000000 in
theorem s_X16_mark {ra : Nat → Nat} {jx : Nat → Nat → Nat} {rm : Nat} (g : Geo ra jx rm) {σ : Sg} (rσ : Rg ra jx rm σ) {Q : Sg → Int → Prop} {X : Sg → String → Prop} (hQ : ∀ (σ' : Sg) (r : Int), Rg ra jx rm σ' → Fr ra jx rm [97, 98] [0, 93, 94] σ σ' → (True) → Q σ' r) : wp_X16_mark ra jx rm σ Q X := by
  obtain ⟨g1, g2, g3, g4, g5, g6, g7, g8⟩ := id g
  have fσ : Fr ra jx rm [97, 98] [0, 93, 94] σ σ := Fr.rf
  unfold wp_X16_mark
  unfold w_X16_mark_0
  try simp only [forall_eq, rII, rIJ, rIP, rJJ, rJI, rJP, rPP, rPI, rPJ, g1, g2, g3, g4, g5, g6, g7, g8, Nat.reduceEqDiff, Nat.reduceAdd, false_and, and_false, true_and, and_true, reduceIte, nZ0, nZ1]
  have q1 := rσ.2.1 30; simp only [rgS] at q1
  split
  · rename_i hc5
    skip
    unfold w_X16_mark_29
    try simp only [forall_eq, rII, rIJ, rIP, rJJ, rJI, rJP, rPP, rPI, rPJ, g1, g2, g3, g4, g5, g6, g7, g8, Nat.reduceEqDiff, Nat.reduceAdd, false_and, and_false, true_and, and_true, reduceIte, nZ0, nZ1]
    unfold w_X16_mark_34
    try simp only [forall_eq, rII, rIJ, rIP, rJJ, rJI, rJP, rPP, rPI, rPJ, g1, g2, g3, g4, g5, g6, g7, g8, Nat.reduceEqDiff, Nat.reduceAdd, false_and, and_false, true_and, and_true, reduceIte, nZ0, nZ1]
    try rw [if_neg (by decide)]
    unfold w_X16_mark_44
    try simp only [forall_eq, rII, rIJ, rIP, rJJ, rJI, rJP, rPP, rPI, rPJ, g1, g2, g3, g4, g5, g6, g7, g8, Nat.reduceEqDiff, Nat.reduceAdd, false_and, and_false, true_and, and_true, reduceIte, nZ0, nZ1]
    refine hQ _ _ ?_ ?_ ?_
    · refine Rg.sI g ?_ (by simp only [rgS]; first | with_reducible exact nZ_rng _ | with_reducible exact nB_rng _ | with_reducible exact wr_rng _ | with_reducible exact i32any _ | (first | omega | with_reducible assumption | (unfold rng; omega) | (unfold rng; (repeat' split) <;> omega) | grind)); exact rσ
    · refine Fr.sI g ?_ (by decide); exact fσ
    · exact trivial
  · rename_i hc5
    skip
    unfold w_X16_mark_8
    try simp only [forall_eq, rII, rIJ, rIP, rJJ, rJI, rJP, rPP, rPI, rPJ, g1, g2, g3, g4, g5, g6, g7, g8, Nat.reduceEqDiff, Nat.reduceAdd, false_and, and_false, true_and, and_true, reduceIte, nZ0, nZ1]
    have q2 := rσ.2.1 32; simp only [rgS] at q2
    split
    · rename_i hc12
      skip
      unfold w_X16_mark_29
      try simp only [forall_eq, rII, rIJ, rIP, rJJ, rJI, rJP, rPP, rPI, rPJ, g1, g2, g3, g4, g5, g6, g7, g8, Nat.reduceEqDiff, Nat.reduceAdd, false_and, and_false, true_and, and_true, reduceIte, nZ0, nZ1]
      unfold w_X16_mark_34
      try simp only [forall_eq, rII, rIJ, rIP, rJJ, rJI, rJP, rPP, rPI, rPJ, g1, g2, g3, g4, g5, g6, g7, g8, Nat.reduceEqDiff, Nat.reduceAdd, false_and, and_false, true_and, and_true, reduceIte, nZ0, nZ1]
      try rw [if_neg (by decide)]
      unfold w_X16_mark_44
      try simp only [forall_eq, rII, rIJ, rIP, rJJ, rJI, rJP, rPP, rPI, rPJ, g1, g2, g3, g4, g5, g6, g7, g8, Nat.reduceEqDiff, Nat.reduceAdd, false_and, and_false, true_and, and_true, reduceIte, nZ0, nZ1]
      refine hQ _ _ ?_ ?_ ?_
      · refine Rg.sI g ?_ (by simp only [rgS]; first | with_reducible exact nZ_rng _ | with_reducible exact nB_rng _ | with_reducible exact wr_rng _ | with_reducible exact i32any _ | (first | omega | with_reducible assumption | (unfold rng; omega) | (unfold rng; (repeat' split) <;> omega) | grind)); exact rσ
      · refine Fr.sI g ?_ (by decide); exact fσ
      · exact trivial
    · rename_i hc12
      skip
      unfold w_X16_mark_15
      try simp only [forall_eq, rII, rIJ, rIP, rJJ, rJI, rJP, rPP, rPI, rPJ, g1, g2, g3, g4, g5, g6, g7, g8, Nat.reduceEqDiff, Nat.reduceAdd, false_and, and_false, true_and, and_true, reduceIte, nZ0, nZ1]
      have q3 := rσ.2.1 31; simp only [rgS] at q3
      split
      · rename_i hc19
        skip
        unfold w_X16_mark_29
        try simp only [forall_eq, rII, rIJ, rIP, rJJ, rJI, rJP, rPP, rPI, rPJ, g1, g2, g3, g4, g5, g6, g7, g8, Nat.reduceEqDiff, Nat.reduceAdd, false_and, and_false, true_and, and_true, reduceIte, nZ0, nZ1]
        unfold w_X16_mark_34
        try simp only [forall_eq, rII, rIJ, rIP, rJJ, rJI, rJP, rPP, rPI, rPJ, g1, g2, g3, g4, g5, g6, g7, g8, Nat.reduceEqDiff, Nat.reduceAdd, false_and, and_false, true_and, and_true, reduceIte, nZ0, nZ1]
        try rw [if_neg (by decide)]
        unfold w_X16_mark_44
        try simp only [forall_eq, rII, rIJ, rIP, rJJ, rJI, rJP, rPP, rPI, rPJ, g1, g2, g3, g4, g5, g6, g7, g8, Nat.reduceEqDiff, Nat.reduceAdd, false_and, and_false, true_and, and_true, reduceIte, nZ0, nZ1]
        refine hQ _ _ ?_ ?_ ?_
        · refine Rg.sI g ?_ (by simp only [rgS]; first | with_reducible exact nZ_rng _ | with_reducible exact nB_rng _ | with_reducible exact wr_rng _ | with_reducible exact i32any _ | (first | omega | with_reducible assumption | (unfold rng; omega) | (unfold rng; (repeat' split) <;> omega) | grind)); exact rσ
        · refine Fr.sI g ?_ (by decide); exact fσ
        · exact trivial
      · rename_i hc19
        skip
        unfold w_X16_mark_22
        try simp only [forall_eq, rII, rIJ, rIP, rJJ, rJI, rJP, rPP, rPI, rPJ, g1, g2, g3, g4, g5, g6, g7, g8, Nat.reduceEqDiff, Nat.reduceAdd, false_and, and_false, true_and, and_true, reduceIte, nZ0, nZ1]
        have q4 := rσ.2.1 93; simp only [rgS] at q4
        split
        · rename_i hc26
          skip
          unfold w_X16_mark_33
          try simp only [forall_eq, rII, rIJ, rIP, rJJ, rJI, rJP, rPP, rPI, rPJ, g1, g2, g3, g4, g5, g6, g7, g8, Nat.reduceEqDiff, Nat.reduceAdd, false_and, and_false, true_and, and_true, reduceIte, nZ0, nZ1]
          unfold w_X16_mark_34
          try simp only [forall_eq, rII, rIJ, rIP, rJJ, rJI, rJP, rPP, rPI, rPJ, g1, g2, g3, g4, g5, g6, g7, g8, Nat.reduceEqDiff, Nat.reduceAdd, false_and, and_false, true_and, and_true, reduceIte, nZ0, nZ1]
          try rw [if_pos (by decide)]
          unfold w_X16_mark_46
          try simp only [forall_eq, rII, rIJ, rIP, rJJ, rJI, rJP, rPP, rPI, rPJ, g1, g2, g3, g4, g5, g6, g7, g8, Nat.reduceEqDiff, Nat.reduceAdd, false_and, and_false, true_and, and_true, reduceIte, nZ0, nZ1]
          have q5 := rσ.2.1 94; simp only [rgS] at q5
          have q6 := rσ.2.1 33; simp only [rgS] at q6
          refine hQ _ _ ?_ ?_ ?_
          · refine Rg.aI g ?_ (by simp only [rgT]; first | with_reducible exact nZ_rng _ | with_reducible exact nB_rng _ | with_reducible exact wr_rng _ | with_reducible exact i32any _ | (first | omega | with_reducible assumption | (unfold rng; omega) | (unfold rng; (repeat' split) <;> omega) | grind)); refine Rg.aI g ?_ (by simp only [rgT]; first | with_reducible exact nZ_rng _ | with_reducible exact nB_rng _ | with_reducible exact wr_rng _ | with_reducible exact i32any _ | (first | omega | with_reducible assumption | (unfold rng; omega) | (unfold rng; (repeat' split) <;> omega) | grind)); refine Rg.sI g ?_ (by simp only [rgS]; first | with_reducible exact nZ_rng _ | with_reducible exact nB_rng _ | with_reducible exact wr_rng _ | with_reducible exact i32any _ | (first | omega | with_reducible assumption | (unfold rng; omega) | (unfold rng; (repeat' split) <;> omega) | grind)); refine Rg.sI g ?_ (by simp only [rgS]; first | with_reducible exact nZ_rng _ | with_reducible exact nB_rng _ | with_reducible exact wr_rng _ | with_reducible exact i32any _ | (first | omega | with_reducible assumption | (unfold rng; omega) | (unfold rng; (repeat' split) <;> omega) | grind)); refine Rg.sI g ?_ (by simp only [rgS]; first | with_reducible exact nZ_rng _ | with_reducible exact nB_rng _ | with_reducible exact wr_rng _ | with_reducible exact i32any _ | (first | omega | with_reducible assumption | (unfold rng; omega) | (unfold rng; (repeat' split) <;> omega) | grind)); exact rσ
          · refine Fr.aI g ?_ (by decide); refine Fr.aI g ?_ (by decide); refine Fr.sI g ?_ (by decide); refine Fr.sI g ?_ (by decide); refine Fr.sI g ?_ (by decide); exact fσ
          · exact trivial
        · rename_i hc26
          skip
          unfold w_X16_mark_29
          try simp only [forall_eq, rII, rIJ, rIP, rJJ, rJI, rJP, rPP, rPI, rPJ, g1, g2, g3, g4, g5, g6, g7, g8, Nat.reduceEqDiff, Nat.reduceAdd, false_and, and_false, true_and, and_true, reduceIte, nZ0, nZ1]
          unfold w_X16_mark_34
          try simp only [forall_eq, rII, rIJ, rIP, rJJ, rJI, rJP, rPP, rPI, rPJ, g1, g2, g3, g4, g5, g6, g7, g8, Nat.reduceEqDiff, Nat.reduceAdd, false_and, and_false, true_and, and_true, reduceIte, nZ0, nZ1]
          try rw [if_neg (by decide)]
          unfold w_X16_mark_44
          try simp only [forall_eq, rII, rIJ, rIP, rJJ, rJI, rJP, rPP, rPI, rPJ, g1, g2, g3, g4, g5, g6, g7, g8, Nat.reduceEqDiff, Nat.reduceAdd, false_and, and_false, true_and, and_true, reduceIte, nZ0, nZ1]
          refine hQ _ _ ?_ ?_ ?_
          · refine Rg.sI g ?_ (by simp only [rgS]; first | with_reducible exact nZ_rng _ | with_reducible exact nB_rng _ | with_reducible exact wr_rng _ | with_reducible exact i32any _ | (first | omega | with_reducible assumption | (unfold rng; omega) | (unfold rng; (repeat' split) <;> omega) | grind)); exact rσ
          · refine Fr.sI g ?_ (by decide); exact fσ
          · exact trivial
set_option maxHeartbeats 2000000 in
theorem s_X16_channel_ {ra : Nat → Nat} {jx : Nat → Nat → Nat} {rm : Nat} (g : Geo ra jx rm) {σ : Sg} {v1 : Int} {v2 : Int} (rσ : Rg ra jx rm σ) (b1 : -2147483648 ≤ v1 ∧ v1 ≤ 2147483647) (b2 : -2147483648 ≤ v2 ∧ v2 ≤ 2147483647) {Q : Sg → Int64 → Prop} {X : Sg → String → Prop} (hQ : ∀ (σ' : Sg) (r : Int64), Rg ra jx rm σ' → Fr ra jx rm [] [0] σ σ' → (True) → Q σ' r) : wp_X16_channel_ ra jx rm v1 v2 σ Q X := by
  obtain ⟨g1, g2, g3, g4, g5, g6, g7, g8⟩ := id g
  have fσ : Fr ra jx rm [] [0] σ σ := Fr.rf
  unfold wp_X16_channel_
  unfold w_X16_channel__0
  try simp only [forall_eq, rII, rIJ, rIP, rJJ, rJI, rJP, rPP, rPI, rPJ, g1, g2, g3, g4, g5, g6, g7, g8, Nat.reduceEqDiff, Nat.reduceAdd, false_and, and_false, true_and, and_true, reduceIte, nZ0, nZ1]
  have q1 := rσ.2.1 50; simp only [rgS] at q1
  refine ⟨by (first | omega | with_reducible assumption | (unfold rng; omega) | (unfold rng; (repeat' split) <;> omega) | grind), ?_⟩
  refine s_X16_within g rσ (fun r12 p2 => ?_)
  obtain ⟨p2, p2b⟩ := p2
  have p2w : r12 = 1 → 0 ≤ v1 ∧ v1 ≤ ((gI σ rm 50) - 1) := fun e => win2 (by (first | omega | with_reducible assumption | (unfold rng; omega) | (unfold rng; (repeat' split) <;> omega) | grind)) (by (first | omega | with_reducible assumption | (unfold rng; omega) | (unfold rng; (repeat' split) <;> omega) | grind)) (by (first | omega | with_reducible assumption | (unfold rng; omega) | (unfold rng; (repeat' split) <;> omega) | grind)) (p2b e)
  try simp only [forall_eq, rII, rIJ, rIP, rJJ, rJI, rJP, rPP, rPI, rPJ, g1, g2, g3, g4, g5, g6, g7, g8, Nat.reduceEqDiff, Nat.reduceAdd, false_and, and_false, true_and, and_true, reduceIte, nZ0, nZ1]
  split
  · rename_i hc14
    skip
    unfold w_X16_channel__21
    try simp only [forall_eq, rII, rIJ, rIP, rJJ, rJI, rJP, rPP, rPI, rPJ, g1, g2, g3, g4, g5, g6, g7, g8, Nat.reduceEqDiff, Nat.reduceAdd, false_and, and_false, true_and, and_true, reduceIte, nZ0, nZ1]
    have q3 := rσ.2.1 32; simp only [rgS] at q3
    split
    · rename_i hc25
      skip
      unfold w_X16_channel__35
      try simp only [forall_eq, rII, rIJ, rIP, rJJ, rJI, rJP, rPP, rPI, rPJ, g1, g2, g3, g4, g5, g6, g7, g8, Nat.reduceEqDiff, Nat.reduceAdd, false_and, and_false, true_and, and_true, reduceIte, nZ0, nZ1]
      unfold w_X16_channel__56
      try simp only [forall_eq, rII, rIJ, rIP, rJJ, rJI, rJP, rPP, rPI, rPJ, g1, g2, g3, g4, g5, g6, g7, g8, Nat.reduceEqDiff, Nat.reduceAdd, false_and, and_false, true_and, and_true, reduceIte, nZ0, nZ1]
      try rw [if_neg (by decide)]
      unfold w_X16_channel__66
      try simp only [forall_eq, rII, rIJ, rIP, rJJ, rJI, rJP, rPP, rPI, rPJ, g1, g2, g3, g4, g5, g6, g7, g8, Nat.reduceEqDiff, Nat.reduceAdd, false_and, and_false, true_and, and_true, reduceIte, nZ0, nZ1]
      refine hQ _ _ ?_ ?_ ?_
      · refine Rg.sI g ?_ (by simp only [rgS]; first | with_reducible exact nZ_rng _ | with_reducible exact nB_rng _ | with_reducible exact wr_rng _ | with_reducible exact i32any _ | (first | omega | with_reducible assumption | (unfold rng; omega) | (unfold rng; (repeat' split) <;> omega) | grind)); exact rσ
      · refine Fr.sI g ?_ (by decide); exact fσ
      · exact trivial
    · rename_i hc25
      skip
      unfold w_X16_channel__28
      try simp only [forall_eq, rII, rIJ, rIP, rJJ, rJI, rJP, rPP, rPI, rPJ, g1, g2, g3, g4, g5, g6, g7, g8, Nat.reduceEqDiff, Nat.reduceAdd, false_and, and_false, true_and, and_true, reduceIte, nZ0, nZ1]
      have q4 := rσ.2.1 31; simp only [rgS] at q4
      split
      · rename_i hc32
        skip
        unfold w_X16_channel__39
        try simp only [forall_eq, rII, rIJ, rIP, rJJ, rJI, rJP, rPP, rPI, rPJ, g1, g2, g3, g4, g5, g6, g7, g8, Nat.reduceEqDiff, Nat.reduceAdd, false_and, and_false, true_and, and_true, reduceIte, nZ0, nZ1]
        refine s_X16_within g rσ (fun r15 p5 => ?_)
        obtain ⟨p5, p5b⟩ := p5
        have p5w : r15 = 1 → 0 ≤ v2 ∧ v2 ≤ 5 := fun e => win (by (first | omega | with_reducible assumption | (unfold rng; omega) | (unfold rng; (repeat' split) <;> omega) | grind)) (p5b e)
        try simp only [forall_eq, rII, rIJ, rIP, rJJ, rJI, rJP, rPP, rPI, rPJ, g1, g2, g3, g4, g5, g6, g7, g8, Nat.reduceEqDiff, Nat.reduceAdd, false_and, and_false, true_and, and_true, reduceIte, nZ0, nZ1]
        split
        · rename_i hc48
          skip
          unfold w_X16_channel__55
          try simp only [forall_eq, rII, rIJ, rIP, rJJ, rJI, rJP, rPP, rPI, rPJ, g1, g2, g3, g4, g5, g6, g7, g8, Nat.reduceEqDiff, Nat.reduceAdd, false_and, and_false, true_and, and_true, reduceIte, nZ0, nZ1]
          unfold w_X16_channel__56
          try simp only [forall_eq, rII, rIJ, rIP, rJJ, rJI, rJP, rPP, rPI, rPJ, g1, g2, g3, g4, g5, g6, g7, g8, Nat.reduceEqDiff, Nat.reduceAdd, false_and, and_false, true_and, and_true, reduceIte, nZ0, nZ1]
          try rw [if_pos (by decide)]
          unfold w_X16_channel__68
          try simp only [forall_eq, rII, rIJ, rIP, rJJ, rJI, rJP, rPP, rPI, rPJ, g1, g2, g3, g4, g5, g6, g7, g8, Nat.reduceEqDiff, Nat.reduceAdd, false_and, and_false, true_and, and_true, reduceIte, nZ0, nZ1]
          split
          · rename_i hc69
            skip
            unfold w_X16_channel__82
            try simp only [forall_eq, rII, rIJ, rIP, rJJ, rJI, rJP, rPP, rPI, rPJ, g1, g2, g3, g4, g5, g6, g7, g8, Nat.reduceEqDiff, Nat.reduceAdd, false_and, and_false, true_and, and_true, reduceIte, nZ0, nZ1]
            split
            · rename_i hc84
              skip
              unfold w_X16_channel__97
              try simp only [forall_eq, rII, rIJ, rIP, rJJ, rJI, rJP, rPP, rPI, rPJ, g1, g2, g3, g4, g5, g6, g7, g8, Nat.reduceEqDiff, Nat.reduceAdd, false_and, and_false, true_and, and_true, reduceIte, nZ0, nZ1]
              split
              · rename_i hc99
                skip
                unfold w_X16_channel__112
                try simp only [forall_eq, rII, rIJ, rIP, rJJ, rJI, rJP, rPP, rPI, rPJ, g1, g2, g3, g4, g5, g6, g7, g8, Nat.reduceEqDiff, Nat.reduceAdd, false_and, and_false, true_and, and_true, reduceIte, nZ0, nZ1]
                split
                · rename_i hc114
                  skip
                  unfold w_X16_channel__126
                  try simp only [forall_eq, rII, rIJ, rIP, rJJ, rJI, rJP, rPP, rPI, rPJ, g1, g2, g3, g4, g5, g6, g7, g8, Nat.reduceEqDiff, Nat.reduceAdd, false_and, and_false, true_and, and_true, reduceIte, nZ0, nZ1]
                  split
                  · rename_i hc128
                    skip
                    unfold w_X16_channel__148
                    try simp only [forall_eq, rII, rIJ, rIP, rJJ, rJI, rJP, rPP, rPI, rPJ, g1, g2, g3, g4, g5, g6, g7, g8, Nat.reduceEqDiff, Nat.reduceAdd, false_and, and_false, true_and, and_true, reduceIte, nZ0, nZ1]
                    refine ⟨by (first | omega | with_reducible assumption | (unfold rng; omega) | (unfold rng; (repeat' split) <;> omega) | grind), ?_⟩
                    unfold w_X16_channel__154
                    try simp only [forall_eq, rII, rIJ, rIP, rJJ, rJI, rJP, rPP, rPI, rPJ, g1, g2, g3, g4, g5, g6, g7, g8, Nat.reduceEqDiff, Nat.reduceAdd, false_and, and_false, true_and, and_true, reduceIte, nZ0, nZ1]
                    refine hQ _ _ ?_ ?_ ?_
                    · refine Rg.sI g ?_ (by simp only [rgS]; first | with_reducible exact nZ_rng _ | with_reducible exact nB_rng _ | with_reducible exact wr_rng _ | with_reducible exact i32any _ | (first | omega | with_reducible assumption | (unfold rng; omega) | (unfold rng; (repeat' split) <;> omega) | grind)); exact rσ
                    · refine Fr.sI g ?_ (by decide); exact fσ
                    · exact trivial
                  · rename_i hc128
                    skip
                    unfold w_X16_channel__131
                    try simp only [forall_eq, rII, rIJ, rIP, rJJ, rJI, rJP, rPP, rPI, rPJ, g1, g2, g3, g4, g5, g6, g7, g8, Nat.reduceEqDiff, Nat.reduceAdd, false_and, and_false, true_and, and_true, reduceIte, nZ0, nZ1]
                    refine ⟨by (first | omega | with_reducible assumption | (unfold rng; omega) | (unfold rng; (repeat' split) <;> omega) | grind), ?_⟩
                    have q6 := rσ.1 57 (v1.toNat); simp only [rgT] at q6
                    split
                    · rename_i hc137
                      skip
                      unfold w_X16_channel__144
                      try simp only [forall_eq, rII, rIJ, rIP, rJJ, rJI, rJP, rPP, rPI, rPJ, g1, g2, g3, g4, g5, g6, g7, g8, Nat.reduceEqDiff, Nat.reduceAdd, false_and, and_false, true_and, and_true, reduceIte, nZ0, nZ1]
                      unfold w_X16_channel__154
                      try simp only [forall_eq, rII, rIJ, rIP, rJJ, rJI, rJP, rPP, rPI, rPJ, g1, g2, g3, g4, g5, g6, g7, g8, Nat.reduceEqDiff, Nat.reduceAdd, false_and, and_false, true_and, and_true, reduceIte, nZ0, nZ1]
                      refine hQ _ _ ?_ ?_ ?_
                      · refine Rg.sI g ?_ (by simp only [rgS]; first | with_reducible exact nZ_rng _ | with_reducible exact nB_rng _ | with_reducible exact wr_rng _ | with_reducible exact i32any _ | (first | omega | with_reducible assumption | (unfold rng; omega) | (unfold rng; (repeat' split) <;> omega) | grind)); exact rσ
                      · refine Fr.sI g ?_ (by decide); exact fσ
                      · exact trivial
                    · rename_i hc137
                      skip
                      unfold w_X16_channel__140
                      try simp only [forall_eq, rII, rIJ, rIP, rJJ, rJI, rJP, rPP, rPI, rPJ, g1, g2, g3, g4, g5, g6, g7, g8, Nat.reduceEqDiff, Nat.reduceAdd, false_and, and_false, true_and, and_true, reduceIte, nZ0, nZ1]
                      unfold w_X16_channel__154
                      try simp only [forall_eq, rII, rIJ, rIP, rJJ, rJI, rJP, rPP, rPI, rPJ, g1, g2, g3, g4, g5, g6, g7, g8, Nat.reduceEqDiff, Nat.reduceAdd, false_and, and_false, true_and, and_true, reduceIte, nZ0, nZ1]
                      refine hQ _ _ ?_ ?_ ?_
                      · refine Rg.sI g ?_ (by simp only [rgS]; first | with_reducible exact nZ_rng _ | with_reducible exact nB_rng _ | with_reducible exact wr_rng _ | with_reducible exact i32any _ | (first | omega | with_reducible assumption | (unfold rng; omega) | (unfold rng; (repeat' split) <;> omega) | grind)); exact rσ
                      · refine Fr.sI g ?_ (by decide); exact fσ
                      · exact trivial
                · rename_i hc114
                  skip
                  unfold w_X16_channel__117
                  try simp only [forall_eq, rII, rIJ, rIP, rJJ, rJI, rJP, rPP, rPI, rPJ, g1, g2, g3, g4, g5, g6, g7, g8, Nat.reduceEqDiff, Nat.reduceAdd, false_and, and_false, true_and, and_true, reduceIte, nZ0, nZ1]
                  refine ⟨by (first | omega | with_reducible assumption | (unfold rng; omega) | (unfold rng; (repeat' split) <;> omega) | grind), ?_⟩
                  unfold w_X16_channel__154
                  try simp only [forall_eq, rII, rIJ, rIP, rJJ, rJI, rJP, rPP, rPI, rPJ, g1, g2, g3, g4, g5, g6, g7, g8, Nat.reduceEqDiff, Nat.reduceAdd, false_and, and_false, true_and, and_true, reduceIte, nZ0, nZ1]
                  refine hQ _ _ ?_ ?_ ?_
                  · refine Rg.sI g ?_ (by simp only [rgS]; first | with_reducible exact nZ_rng _ | with_reducible exact nB_rng _ | with_reducible exact wr_rng _ | with_reducible exact i32any _ | (first | omega | with_reducible assumption | (unfold rng; omega) | (unfold rng; (repeat' split) <;> omega) | grind)); exact rσ
                  · refine Fr.sI g ?_ (by decide); exact fσ
                  · exact trivial
              · rename_i hc99
                skip
                unfold w_X16_channel__102
                try simp only [forall_eq, rII, rIJ, rIP, rJJ, rJI, rJP, rPP, rPI, rPJ, g1, g2, g3, g4, g5, g6, g7, g8, Nat.reduceEqDiff, Nat.reduceAdd, false_and, and_false, true_and, and_true, reduceIte, nZ0, nZ1]
                refine ⟨by (first | omega | with_reducible assumption | (unfold rng; omega) | (unfold rng; (repeat' split) <;> omega) | grind), ?_⟩
                unfold w_X16_channel__154
                try simp only [forall_eq, rII, rIJ, rIP, rJJ, rJI, rJP, rPP, rPI, rPJ, g1, g2, g3, g4, g5, g6, g7, g8, Nat.reduceEqDiff, Nat.reduceAdd, false_and, and_false, true_and, and_true, reduceIte, nZ0, nZ1]
                refine hQ _ _ ?_ ?_ ?_
                · refine Rg.sI g ?_ (by simp only [rgS]; first | with_reducible exact nZ_rng _ | with_reducible exact nB_rng _ | with_reducible exact wr_rng _ | with_reducible exact i32any _ | (first | omega | with_reducible assumption | (unfold rng; omega) | (unfold rng; (repeat' split) <;> omega) | grind)); exact rσ
                · refine Fr.sI g ?_ (by decide); exact fσ
                · exact trivial
            · rename_i hc84
              skip
              unfold w_X16_channel__87
              try simp only [forall_eq, rII, rIJ, rIP, rJJ, rJI, rJP, rPP, rPI, rPJ, g1, g2, g3, g4, g5, g6, g7, g8, Nat.reduceEqDiff, Nat.reduceAdd, false_and, and_false, true_and, and_true, reduceIte, nZ0, nZ1]
              refine ⟨by (first | omega | with_reducible assumption | (unfold rng; omega) | (unfold rng; (repeat' split) <;> omega) | grind), ?_⟩
              unfold w_X16_channel__154
              try simp only [forall_eq, rII, rIJ, rIP, rJJ, rJI, rJP, rPP, rPI, rPJ, g1, g2, g3, g4, g5, g6, g7, g8, Nat.reduceEqDiff, Nat.reduceAdd, false_and, and_false, true_and, and_true, reduceIte, nZ0, nZ1]
              refine hQ _ _ ?_ ?_ ?_
              · refine Rg.sI g ?_ (by simp only [rgS]; first | with_reducible exact nZ_rng _ | with_reducible exact nB_rng _ | with_reducible exact wr_rng _ | with_reducible exact i32any _ | (first | omega | with_reducible assumption | (unfold rng; omega) | (unfold rng; (repeat' split) <;> omega) | grind)); exact rσ
              · refine Fr.sI g ?_ (by decide); exact fσ
              · exact trivial
          · rename_i hc69
            skip
            unfold w_X16_channel__72
            try simp only [forall_eq, rII, rIJ, rIP, rJJ, rJI, rJP, rPP, rPI, rPJ, g1, g2, g3, g4, g5, g6, g7, g8, Nat.reduceEqDiff, Nat.reduceAdd, false_and, and_false, true_and, and_true, reduceIte, nZ0, nZ1]
            refine ⟨by (first | omega | with_reducible assumption | (unfold rng; omega) | (unfold rng; (repeat' split) <;> omega) | grind), ?_⟩
            unfold w_X16_channel__154
            try simp only [forall_eq, rII, rIJ, rIP, rJJ, rJI, rJP, rPP, rPI, rPJ, g1, g2, g3, g4, g5, g6, g7, g8, Nat.reduceEqDiff, Nat.reduceAdd, false_and, and_false, true_and, and_true, reduceIte, nZ0, nZ1]
            refine hQ _ _ ?_ ?_ ?_
            · refine Rg.sI g ?_ (by simp only [rgS]; first | with_reducible exact nZ_rng _ | with_reducible exact nB_rng _ | with_reducible exact wr_rng _ | with_reducible exact i32any _ | (first | omega | with_reducible assumption | (unfold rng; omega) | (unfold rng; (repeat' split) <;> omega) | grind)); exact rσ
            · refine Fr.sI g ?_ (by decide); exact fσ
            · exact trivial
        · rename_i hc48
          skip
          unfold w_X16_channel__51
          try simp only [forall_eq, rII, rIJ, rIP, rJJ, rJI, rJP, rPP, rPI, rPJ, g1, g2, g3, g4, g5, g6, g7, g8, Nat.reduceEqDiff, Nat.reduceAdd, false_and, and_false, true_and, and_true, reduceIte, nZ0, nZ1]
          unfold w_X16_channel__56
          try simp only [forall_eq, rII, rIJ, rIP, rJJ, rJI, rJP, rPP, rPI, rPJ, g1, g2, g3, g4, g5, g6, g7, g8, Nat.reduceEqDiff, Nat.reduceAdd, false_and, and_false, true_and, and_true, reduceIte, nZ0, nZ1]
          try rw [if_neg (by decide)]
          unfold w_X16_channel__66
          try simp only [forall_eq, rII, rIJ, rIP, rJJ, rJI, rJP, rPP, rPI, rPJ, g1, g2, g3, g4, g5, g6, g7, g8, Nat.reduceEqDiff, Nat.reduceAdd, false_and, and_false, true_and, and_true, reduceIte, nZ0, nZ1]
          refine hQ _ _ ?_ ?_ ?_
          · refine Rg.sI g ?_ (by simp only [rgS]; first | with_reducible exact nZ_rng _ | with_reducible exact nB_rng _ | with_reducible exact wr_rng _ | with_reducible exact i32any _ | (first | omega | with_reducible assumption | (unfold rng; omega) | (unfold rng; (repeat' split) <;> omega) | grind)); exact rσ
          · refine Fr.sI g ?_ (by decide); exact fσ
          · exact trivial
      · rename_i hc32
        skip
        unfold w_X16_channel__35
        try simp only [forall_eq, rII, rIJ, rIP, rJJ, rJI, rJP, rPP, rPI, rPJ, g1, g2, g3, g4, g5, g6, g7, g8, Nat.reduceEqDiff, Nat.reduceAdd, false_and, and_false, true_and, and_true, reduceIte, nZ0, nZ1]
        unfold w_X16_channel__56
        try simp only [forall_eq, rII, rIJ, rIP, rJJ, rJI, rJP, rPP, rPI, rPJ, g1, g2, g3, g4, g5, g6, g7, g8, Nat.reduceEqDiff, Nat.reduceAdd, false_and, and_false, true_and, and_true, reduceIte, nZ0, nZ1]
        try rw [if_neg (by decide)]
        unfold w_X16_channel__66
        try simp only [forall_eq, rII, rIJ, rIP, rJJ, rJI, rJP, rPP, rPI, rPJ, g1, g2, g3, g4, g5, g6, g7, g8, Nat.reduceEqDiff, Nat.reduceAdd, false_and, and_false, true_and, and_true, reduceIte, nZ0, nZ1]
        refine hQ _ _ ?_ ?_ ?_
        · refine Rg.sI g ?_ (by simp only [rgS]; first | with_reducible exact nZ_rng _ | with_reducible exact nB_rng _ | with_reducible exact wr_rng _ | with_reducible exact i32any _ | (first | omega | with_reducible assumption | (unfold rng; omega) | (unfold rng; (repeat' split) <;> omega) | grind)); exact rσ
        · refine Fr.sI g ?_ (by decide); exact fσ
        · exact trivial
  · rename_i hc14
    skip
    unfold w_X16_channel__17
    try simp only [forall_eq, rII, rIJ, rIP, rJJ, rJI, rJP, rPP, rPI, rPJ, g1, g2, g3, g4, g5, g6, g7, g8, Nat.reduceEqDiff, Nat.reduceAdd, false_and, and_false, true_and, and_true, reduceIte, nZ0, nZ1]
    unfold w_X16_channel__56
    try simp only [forall_eq, rII, rIJ, rIP, rJJ, rJI, rJP, rPP, rPI, rPJ, g1, g2, g3, g4, g5, g6, g7, g8, Nat.reduceEqDiff, Nat.reduceAdd, false_and, and_false, true_and, and_true, reduceIte, nZ0, nZ1]
    try rw [if_neg (by decide)]
    unfold w_X16_channel__66
    try simp only [forall_eq, rII, rIJ, rIP, rJJ, rJI, rJP, rPP, rPI, rPJ, g1, g2, g3, g4, g5, g6, g7, g8, Nat.reduceEqDiff, Nat.reduceAdd, false_and, and_false, true_and, and_true, reduceIte, nZ0, nZ1]
    refine hQ _ _ ?_ ?_ ?_
    · refine Rg.sI g ?_ (by simp only [rgS]; first | with_reducible exact nZ_rng _ | with_reducible exact nB_rng _ | with_reducible exact wr_rng _ | with_reducible exact i32any _ | (first | omega | with_reducible assumption | (unfold rng; omega) | (unfold rng; (repeat' split) <;> omega) | grind)); exact rσ
    · refine Fr.sI g ?_ (by decide); exact fσ
    · exact trivial
set_option maxHeartbeats 2000000 in
theorem s_X16_told {ra : Nat → Nat} {jx : Nat → Nat → Nat} {rm : Nat} {ja : Nat} (g : Geo ra jx rm) {σ : Sg} {v1 : Int} (rσ : Rg ra jx rm σ) (hj : gP σ rm 17 = none ∨ gP σ rm 17 = some ja) (hja : ja = ra 15 ∨ ja = ra 16) (hn : 0 ≤ gI σ ja 0 ∧ gI σ ja 0 ≤ 16) (hno : 0 ≤ gI σ ja 1 ∧ gI σ ja 1 ≤ 4) (b1 : -2147483648 ≤ v1 ∧ v1 ≤ 2147483647) {Q : Sg → Int → Prop} {X : Sg → String → Prop} (hQ : ∀ (σ' : Sg) (r : Int), Rg ra jx rm σ' → Fr ra jx rm [] [0] σ σ' → (True) → Q σ' r) : wp_X16_told ra jx rm v1 σ Q X := by
  obtain ⟨g1, g2, g3, g4, g5, g6, g7, g8⟩ := id g
  have fσ : Fr ra jx rm [] [0] σ σ := Fr.rf
  unfold wp_X16_told
  unfold w_X16_told_0
  try simp only [forall_eq, rII, rIJ, rIP, rJJ, rJI, rJP, rPP, rPI, rPJ, g1, g2, g3, g4, g5, g6, g7, g8, Nat.reduceEqDiff, Nat.reduceAdd, false_and, and_false, true_and, and_true, reduceIte, nZ0, nZ1]
  by_cases hc6_0 : v1 = 0
  · rw [if_pos hc6_0]
    unfold w_X16_told_80
    try simp only [forall_eq, rII, rIJ, rIP, rJJ, rJI, rJP, rPP, rPI, rPJ, g1, g2, g3, g4, g5, g6, g7, g8, Nat.reduceEqDiff, Nat.reduceAdd, false_and, and_false, true_and, and_true, reduceIte, nZ0, nZ1]
    split
    · rename_i hc84
      skip
      unfold w_X16_told_91
      try simp only [forall_eq, rII, rIJ, rIP, rJJ, rJI, rJP, rPP, rPI, rPJ, g1, g2, g3, g4, g5, g6, g7, g8, Nat.reduceEqDiff, Nat.reduceAdd, false_and, and_false, true_and, and_true, reduceIte, nZ0, nZ1]
      refine ⟨ja, by exact hj.resolve_left (by assumption), hja, ?_⟩
      unfold w_X16_told_98
      try simp only [forall_eq, rII, rIJ, rIP, rJJ, rJI, rJP, rPP, rPI, rPJ, g1, g2, g3, g4, g5, g6, g7, g8, Nat.reduceEqDiff, Nat.reduceAdd, false_and, and_false, true_and, and_true, reduceIte, nZ0, nZ1]
      refine hQ _ _ ?_ ?_ ?_
      · refine Rg.sI g ?_ (by simp only [rgS]; first | with_reducible exact nZ_rng _ | with_reducible exact nB_rng _ | with_reducible exact wr_rng _ | with_reducible exact i32any _ | (first | omega | with_reducible assumption | (unfold rng; omega) | (unfold rng; (repeat' split) <;> omega) | grind)); exact rσ
      · refine Fr.sI g ?_ (by decide); exact fσ
      · exact trivial
    · rename_i hc84
      skip
      unfold w_X16_told_87
      try simp only [forall_eq, rII, rIJ, rIP, rJJ, rJI, rJP, rPP, rPI, rPJ, g1, g2, g3, g4, g5, g6, g7, g8, Nat.reduceEqDiff, Nat.reduceAdd, false_and, and_false, true_and, and_true, reduceIte, nZ0, nZ1]
      unfold w_X16_told_98
      try simp only [forall_eq, rII, rIJ, rIP, rJJ, rJI, rJP, rPP, rPI, rPJ, g1, g2, g3, g4, g5, g6, g7, g8, Nat.reduceEqDiff, Nat.reduceAdd, false_and, and_false, true_and, and_true, reduceIte, nZ0, nZ1]
      refine hQ _ _ ?_ ?_ ?_
      · refine Rg.sI g ?_ (by simp only [rgS]; first | with_reducible exact nZ_rng _ | with_reducible exact nB_rng _ | with_reducible exact wr_rng _ | with_reducible exact i32any _ | (first | omega | with_reducible assumption | (unfold rng; omega) | (unfold rng; (repeat' split) <;> omega) | grind)); exact rσ
      · refine Fr.sI g ?_ (by decide); exact fσ
      · exact trivial
  · rw [if_neg hc6_0]
    by_cases hc6_1 : v1 = 1
    · rw [if_pos hc6_1]
      unfold w_X16_told_99
      try simp only [forall_eq, rII, rIJ, rIP, rJJ, rJI, rJP, rPP, rPI, rPJ, g1, g2, g3, g4, g5, g6, g7, g8, Nat.reduceEqDiff, Nat.reduceAdd, false_and, and_false, true_and, and_true, reduceIte, nZ0, nZ1]
      have q2 := rσ.2.1 36; simp only [rgS] at q2
      refine hQ _ _ ?_ ?_ ?_
      · refine Rg.sI g ?_ (by simp only [rgS]; first | with_reducible exact nZ_rng _ | with_reducible exact nB_rng _ | with_reducible exact wr_rng _ | with_reducible exact i32any _ | (first | omega | with_reducible assumption | (unfold rng; omega) | (unfold rng; (repeat' split) <;> omega) | grind)); exact rσ
      · refine Fr.sI g ?_ (by decide); exact fσ
      · exact trivial
    · rw [if_neg hc6_1]
      by_cases hc6_2 : v1 = 2
      · rw [if_pos hc6_2]
        unfold w_X16_told_104
        try simp only [forall_eq, rII, rIJ, rIP, rJJ, rJI, rJP, rPP, rPI, rPJ, g1, g2, g3, g4, g5, g6, g7, g8, Nat.reduceEqDiff, Nat.reduceAdd, false_and, and_false, true_and, and_true, reduceIte, nZ0, nZ1]
        have q3 := rσ.2.1 50; simp only [rgS] at q3
        refine hQ _ _ ?_ ?_ ?_
        · refine Rg.sI g ?_ (by simp only [rgS]; first | with_reducible exact nZ_rng _ | with_reducible exact nB_rng _ | with_reducible exact wr_rng _ | with_reducible exact i32any _ | (first | omega | with_reducible assumption | (unfold rng; omega) | (unfold rng; (repeat' split) <;> omega) | grind)); exact rσ
        · refine Fr.sI g ?_ (by decide); exact fσ
        · exact trivial
      · rw [if_neg hc6_2]
        by_cases hc6_3 : v1 = 3
        · rw [if_pos hc6_3]
          unfold w_X16_told_109
          try simp only [forall_eq, rII, rIJ, rIP, rJJ, rJI, rJP, rPP, rPI, rPJ, g1, g2, g3, g4, g5, g6, g7, g8, Nat.reduceEqDiff, Nat.reduceAdd, false_and, and_false, true_and, and_true, reduceIte, nZ0, nZ1]
          refine hQ _ _ ?_ ?_ ?_
          · refine Rg.sI g ?_ (by simp only [rgS]; first | with_reducible exact nZ_rng _ | with_reducible exact nB_rng _ | with_reducible exact wr_rng _ | with_reducible exact i32any _ | (first | omega | with_reducible assumption | (unfold rng; omega) | (unfold rng; (repeat' split) <;> omega) | grind)); exact rσ
          · refine Fr.sI g ?_ (by decide); exact fσ
          · exact trivial
        · rw [if_neg hc6_3]
          by_cases hc6_4 : v1 = 4
          · rw [if_pos hc6_4]
            unfold w_X16_told_115
            try simp only [forall_eq, rII, rIJ, rIP, rJJ, rJI, rJP, rPP, rPI, rPJ, g1, g2, g3, g4, g5, g6, g7, g8, Nat.reduceEqDiff, Nat.reduceAdd, false_and, and_false, true_and, and_true, reduceIte, nZ0, nZ1]
            refine hQ _ _ ?_ ?_ ?_
            · refine Rg.sI g ?_ (by simp only [rgS]; first | with_reducible exact nZ_rng _ | with_reducible exact nB_rng _ | with_reducible exact wr_rng _ | with_reducible exact i32any _ | (first | omega | with_reducible assumption | (unfold rng; omega) | (unfold rng; (repeat' split) <;> omega) | grind)); exact rσ
            · refine Fr.sI g ?_ (by decide); exact fσ
            · exact trivial
          · rw [if_neg hc6_4]
            by_cases hc6_5 : v1 = 5
            · rw [if_pos hc6_5]
              unfold w_X16_told_121
              try simp only [forall_eq, rII, rIJ, rIP, rJJ, rJI, rJP, rPP, rPI, rPJ, g1, g2, g3, g4, g5, g6, g7, g8, Nat.reduceEqDiff, Nat.reduceAdd, false_and, and_false, true_and, and_true, reduceIte, nZ0, nZ1]
              have q4 := rσ.2.1 92; simp only [rgS] at q4
              refine hQ _ _ ?_ ?_ ?_
              · refine Rg.sI g ?_ (by simp only [rgS]; first | with_reducible exact nZ_rng _ | with_reducible exact nB_rng _ | with_reducible exact wr_rng _ | with_reducible exact i32any _ | (first | omega | with_reducible assumption | (unfold rng; omega) | (unfold rng; (repeat' split) <;> omega) | grind)); exact rσ
              · refine Fr.sI g ?_ (by decide); exact fσ
              · exact trivial
            · rw [if_neg hc6_5]
              by_cases hc6_6 : v1 = 6
              · rw [if_pos hc6_6]
                unfold w_X16_told_126
                try simp only [forall_eq, rII, rIJ, rIP, rJJ, rJI, rJP, rPP, rPI, rPJ, g1, g2, g3, g4, g5, g6, g7, g8, Nat.reduceEqDiff, Nat.reduceAdd, false_and, and_false, true_and, and_true, reduceIte, nZ0, nZ1]
                have q5 := rσ.2.1 93; simp only [rgS] at q5
                refine hQ _ _ ?_ ?_ ?_
                · refine Rg.sI g ?_ (by simp only [rgS]; first | with_reducible exact nZ_rng _ | with_reducible exact nB_rng _ | with_reducible exact wr_rng _ | with_reducible exact i32any _ | (first | omega | with_reducible assumption | (unfold rng; omega) | (unfold rng; (repeat' split) <;> omega) | grind)); exact rσ
                · refine Fr.sI g ?_ (by decide); exact fσ
                · exact trivial
              · rw [if_neg hc6_6]
                by_cases hc6_7 : v1 = 7
                · rw [if_pos hc6_7]
                  unfold w_X16_told_131
                  try simp only [forall_eq, rII, rIJ, rIP, rJJ, rJI, rJP, rPP, rPI, rPJ, g1, g2, g3, g4, g5, g6, g7, g8, Nat.reduceEqDiff, Nat.reduceAdd, false_and, and_false, true_and, and_true, reduceIte, nZ0, nZ1]
                  have q6 := rσ.2.1 112; simp only [rgS] at q6
                  refine hQ _ _ ?_ ?_ ?_
                  · refine Rg.sI g ?_ (by simp only [rgS]; first | with_reducible exact nZ_rng _ | with_reducible exact nB_rng _ | with_reducible exact wr_rng _ | with_reducible exact i32any _ | (first | omega | with_reducible assumption | (unfold rng; omega) | (unfold rng; (repeat' split) <;> omega) | grind)); exact rσ
                  · refine Fr.sI g ?_ (by decide); exact fσ
                  · exact trivial
                · rw [if_neg hc6_7]
                  by_cases hc6_8 : v1 = 8
                  · rw [if_pos hc6_8]
                    unfold w_X16_told_136
                    try simp only [forall_eq, rII, rIJ, rIP, rJJ, rJI, rJP, rPP, rPI, rPJ, g1, g2, g3, g4, g5, g6, g7, g8, Nat.reduceEqDiff, Nat.reduceAdd, false_and, and_false, true_and, and_true, reduceIte, nZ0, nZ1]
                    have q7 := rσ.2.1 31; simp only [rgS] at q7
                    split
                    · rename_i hc140
                      skip
                      unfold w_X16_told_147
                      try simp only [forall_eq, rII, rIJ, rIP, rJJ, rJI, rJP, rPP, rPI, rPJ, g1, g2, g3, g4, g5, g6, g7, g8, Nat.reduceEqDiff, Nat.reduceAdd, false_and, and_false, true_and, and_true, reduceIte, nZ0, nZ1]
                      unfold w_X16_told_148
                      try simp only [forall_eq, rII, rIJ, rIP, rJJ, rJI, rJP, rPP, rPI, rPJ, g1, g2, g3, g4, g5, g6, g7, g8, Nat.reduceEqDiff, Nat.reduceAdd, false_and, and_false, true_and, and_true, reduceIte, nZ0, nZ1]
                      refine hQ _ _ ?_ ?_ ?_
                      · refine Rg.sI g ?_ (by simp only [rgS]; first | with_reducible exact nZ_rng _ | with_reducible exact nB_rng _ | with_reducible exact wr_rng _ | with_reducible exact i32any _ | (first | omega | with_reducible assumption | (unfold rng; omega) | (unfold rng; (repeat' split) <;> omega) | grind)); exact rσ
                      · refine Fr.sI g ?_ (by decide); exact fσ
                      · exact trivial
                    · rename_i hc140
                      skip
                      unfold w_X16_told_143
                      try simp only [forall_eq, rII, rIJ, rIP, rJJ, rJI, rJP, rPP, rPI, rPJ, g1, g2, g3, g4, g5, g6, g7, g8, Nat.reduceEqDiff, Nat.reduceAdd, false_and, and_false, true_and, and_true, reduceIte, nZ0, nZ1]
                      unfold w_X16_told_148
                      try simp only [forall_eq, rII, rIJ, rIP, rJJ, rJI, rJP, rPP, rPI, rPJ, g1, g2, g3, g4, g5, g6, g7, g8, Nat.reduceEqDiff, Nat.reduceAdd, false_and, and_false, true_and, and_true, reduceIte, nZ0, nZ1]
                      refine hQ _ _ ?_ ?_ ?_
                      · refine Rg.sI g ?_ (by simp only [rgS]; first | with_reducible exact nZ_rng _ | with_reducible exact nB_rng _ | with_reducible exact wr_rng _ | with_reducible exact i32any _ | (first | omega | with_reducible assumption | (unfold rng; omega) | (unfold rng; (repeat' split) <;> omega) | grind)); exact rσ
                      · refine Fr.sI g ?_ (by decide); exact fσ
                      · exact trivial
                  · rw [if_neg hc6_8]
                    by_cases hc6_9 : v1 = 9
                    · rw [if_pos hc6_9]
                      unfold w_X16_told_149
                      try simp only [forall_eq, rII, rIJ, rIP, rJJ, rJI, rJP, rPP, rPI, rPJ, g1, g2, g3, g4, g5, g6, g7, g8, Nat.reduceEqDiff, Nat.reduceAdd, false_and, and_false, true_and, and_true, reduceIte, nZ0, nZ1]
                      have q8 := rσ.2.1 32; simp only [rgS] at q8
                      split
                      · rename_i hc153
                        skip
                        unfold w_X16_told_160
                        try simp only [forall_eq, rII, rIJ, rIP, rJJ, rJI, rJP, rPP, rPI, rPJ, g1, g2, g3, g4, g5, g6, g7, g8, Nat.reduceEqDiff, Nat.reduceAdd, false_and, and_false, true_and, and_true, reduceIte, nZ0, nZ1]
                        unfold w_X16_told_161
                        try simp only [forall_eq, rII, rIJ, rIP, rJJ, rJI, rJP, rPP, rPI, rPJ, g1, g2, g3, g4, g5, g6, g7, g8, Nat.reduceEqDiff, Nat.reduceAdd, false_and, and_false, true_and, and_true, reduceIte, nZ0, nZ1]
                        refine hQ _ _ ?_ ?_ ?_
                        · refine Rg.sI g ?_ (by simp only [rgS]; first | with_reducible exact nZ_rng _ | with_reducible exact nB_rng _ | with_reducible exact wr_rng _ | with_reducible exact i32any _ | (first | omega | with_reducible assumption | (unfold rng; omega) | (unfold rng; (repeat' split) <;> omega) | grind)); exact rσ
                        · refine Fr.sI g ?_ (by decide); exact fσ
                        · exact trivial
                      · rename_i hc153
                        skip
                        unfold w_X16_told_156
                        try simp only [forall_eq, rII, rIJ, rIP, rJJ, rJI, rJP, rPP, rPI, rPJ, g1, g2, g3, g4, g5, g6, g7, g8, Nat.reduceEqDiff, Nat.reduceAdd, false_and, and_false, true_and, and_true, reduceIte, nZ0, nZ1]
                        unfold w_X16_told_161
                        try simp only [forall_eq, rII, rIJ, rIP, rJJ, rJI, rJP, rPP, rPI, rPJ, g1, g2, g3, g4, g5, g6, g7, g8, Nat.reduceEqDiff, Nat.reduceAdd, false_and, and_false, true_and, and_true, reduceIte, nZ0, nZ1]
                        refine hQ _ _ ?_ ?_ ?_
                        · refine Rg.sI g ?_ (by simp only [rgS]; first | with_reducible exact nZ_rng _ | with_reducible exact nB_rng _ | with_reducible exact wr_rng _ | with_reducible exact i32any _ | (first | omega | with_reducible assumption | (unfold rng; omega) | (unfold rng; (repeat' split) <;> omega) | grind)); exact rσ
                        · refine Fr.sI g ?_ (by decide); exact fσ
                        · exact trivial
                    · rw [if_neg hc6_9]
                      by_cases hc6_10 : v1 = 10
                      · rw [if_pos hc6_10]
                        unfold w_X16_told_162
                        try simp only [forall_eq, rII, rIJ, rIP, rJJ, rJI, rJP, rPP, rPI, rPJ, g1, g2, g3, g4, g5, g6, g7, g8, Nat.reduceEqDiff, Nat.reduceAdd, false_and, and_false, true_and, and_true, reduceIte, nZ0, nZ1]
                        refine s_X16_listed g (by refine Rg.sI g ?_ (by simp only [rgS]; first | with_reducible exact nZ_rng _ | with_reducible exact nB_rng _ | with_reducible exact wr_rng _ | with_reducible exact i32any _ | (first | omega | with_reducible assumption | (unfold rng; omega) | (unfold rng; (repeat' split) <;> omega) | grind)); exact rσ) (by (try simp only [rII, rIJ, rIP, rJJ, rJI, rJP, rPP, rPI, rPJ, g1, g2, g3, g4, g5, g6, g7, g8, Nat.reduceEqDiff, Nat.reduceAdd, false_and, and_false, true_and, and_true, reduceIte, nZ0, nZ1]) <;> (first | omega | with_reducible assumption | (unfold rng; omega) | (unfold rng; (repeat' split) <;> omega) | grind)) (fun r18 p9 => ?_)
                        try simp only [forall_eq, rII, rIJ, rIP, rJJ, rJI, rJP, rPP, rPI, rPJ, g1, g2, g3, g4, g5, g6, g7, g8, Nat.reduceEqDiff, Nat.reduceAdd, false_and, and_false, true_and, and_true, reduceIte, nZ0, nZ1]
                        refine hQ _ _ ?_ ?_ ?_
                        · refine Rg.sI g ?_ (by simp only [rgS]; first | with_reducible exact nZ_rng _ | with_reducible exact nB_rng _ | with_reducible exact wr_rng _ | with_reducible exact i32any _ | (first | omega | with_reducible assumption | (unfold rng; omega) | (unfold rng; (repeat' split) <;> omega) | grind)); exact rσ
                        · refine Fr.sI g ?_ (by decide); exact fσ
                        · exact trivial
                      · rw [if_neg hc6_10]
                        by_cases hc6_11 : v1 = 11
                        · rw [if_pos hc6_11]
                          unfold w_X16_told_168
                          try simp only [forall_eq, rII, rIJ, rIP, rJJ, rJI, rJP, rPP, rPI, rPJ, g1, g2, g3, g4, g5, g6, g7, g8, Nat.reduceEqDiff, Nat.reduceAdd, false_and, and_false, true_and, and_true, reduceIte, nZ0, nZ1]
                          refine s_X16_listed g (by refine Rg.sI g ?_ (by simp only [rgS]; first | with_reducible exact nZ_rng _ | with_reducible exact nB_rng _ | with_reducible exact wr_rng _ | with_reducible exact i32any _ | (first | omega | with_reducible assumption | (unfold rng; omega) | (unfold rng; (repeat' split) <;> omega) | grind)); exact rσ) (by (try simp only [rII, rIJ, rIP, rJJ, rJI, rJP, rPP, rPI, rPJ, g1, g2, g3, g4, g5, g6, g7, g8, Nat.reduceEqDiff, Nat.reduceAdd, false_and, and_false, true_and, and_true, reduceIte, nZ0, nZ1]) <;> (first | omega | with_reducible assumption | (unfold rng; omega) | (unfold rng; (repeat' split) <;> omega) | grind)) (fun r20 p10 => ?_)
                          try simp only [forall_eq, rII, rIJ, rIP, rJJ, rJI, rJP, rPP, rPI, rPJ, g1, g2, g3, g4, g5, g6, g7, g8, Nat.reduceEqDiff, Nat.reduceAdd, false_and, and_false, true_and, and_true, reduceIte, nZ0, nZ1]
                          refine hQ _ _ ?_ ?_ ?_
                          · refine Rg.sI g ?_ (by simp only [rgS]; first | with_reducible exact nZ_rng _ | with_reducible exact nB_rng _ | with_reducible exact wr_rng _ | with_reducible exact i32any _ | (first | omega | with_reducible assumption | (unfold rng; omega) | (unfold rng; (repeat' split) <;> omega) | grind)); exact rσ
                          · refine Fr.sI g ?_ (by decide); exact fσ
                          · exact trivial
                        · rw [if_neg hc6_11]
                          by_cases hc6_12 : v1 = 12
                          · rw [if_pos hc6_12]
                            unfold w_X16_told_174
                            try simp only [forall_eq, rII, rIJ, rIP, rJJ, rJI, rJP, rPP, rPI, rPJ, g1, g2, g3, g4, g5, g6, g7, g8, Nat.reduceEqDiff, Nat.reduceAdd, false_and, and_false, true_and, and_true, reduceIte, nZ0, nZ1]
                            have q11 := rσ.2.1 27; simp only [rgS] at q11
                            refine hQ _ _ ?_ ?_ ?_
                            · refine Rg.sI g ?_ (by simp only [rgS]; first | with_reducible exact nZ_rng _ | with_reducible exact nB_rng _ | with_reducible exact wr_rng _ | with_reducible exact i32any _ | (first | omega | with_reducible assumption | (unfold rng; omega) | (unfold rng; (repeat' split) <;> omega) | grind)); exact rσ
                            · refine Fr.sI g ?_ (by decide); exact fσ
                            · exact trivial
                          · rw [if_neg hc6_12]
                            by_cases hc6_13 : v1 = 13
                            · rw [if_pos hc6_13]
                              unfold w_X16_told_179
                              try simp only [forall_eq, rII, rIJ, rIP, rJJ, rJI, rJP, rPP, rPI, rPJ, g1, g2, g3, g4, g5, g6, g7, g8, Nat.reduceEqDiff, Nat.reduceAdd, false_and, and_false, true_and, and_true, reduceIte, nZ0, nZ1]
                              split
                              · rename_i hc183
                                skip
                                unfold w_X16_told_190
                                try simp only [forall_eq, rII, rIJ, rIP, rJJ, rJI, rJP, rPP, rPI, rPJ, g1, g2, g3, g4, g5, g6, g7, g8, Nat.reduceEqDiff, Nat.reduceAdd, false_and, and_false, true_and, and_true, reduceIte, nZ0, nZ1]
                                refine ⟨ja, by exact hj.resolve_left (by assumption), hja, ?_⟩
                                unfold w_X16_told_197
                                try simp only [forall_eq, rII, rIJ, rIP, rJJ, rJI, rJP, rPP, rPI, rPJ, g1, g2, g3, g4, g5, g6, g7, g8, Nat.reduceEqDiff, Nat.reduceAdd, false_and, and_false, true_and, and_true, reduceIte, nZ0, nZ1]
                                refine hQ _ _ ?_ ?_ ?_
                                · refine Rg.sI g ?_ (by simp only [rgS]; first | with_reducible exact nZ_rng _ | with_reducible exact nB_rng _ | with_reducible exact wr_rng _ | with_reducible exact i32any _ | (first | omega | with_reducible assumption | (unfold rng; omega) | (unfold rng; (repeat' split) <;> omega) | grind)); exact rσ
                                · refine Fr.sI g ?_ (by decide); exact fσ
                                · exact trivial
                              · rename_i hc183
                                skip
                                unfold w_X16_told_186
                                try simp only [forall_eq, rII, rIJ, rIP, rJJ, rJI, rJP, rPP, rPI, rPJ, g1, g2, g3, g4, g5, g6, g7, g8, Nat.reduceEqDiff, Nat.reduceAdd, false_and, and_false, true_and, and_true, reduceIte, nZ0, nZ1]
                                unfold w_X16_told_197
                                try simp only [forall_eq, rII, rIJ, rIP, rJJ, rJI, rJP, rPP, rPI, rPJ, g1, g2, g3, g4, g5, g6, g7, g8, Nat.reduceEqDiff, Nat.reduceAdd, false_and, and_false, true_and, and_true, reduceIte, nZ0, nZ1]
                                refine hQ _ _ ?_ ?_ ?_
                                · refine Rg.sI g ?_ (by simp only [rgS]; first | with_reducible exact nZ_rng _ | with_reducible exact nB_rng _ | with_reducible exact wr_rng _ | with_reducible exact i32any _ | (first | omega | with_reducible assumption | (unfold rng; omega) | (unfold rng; (repeat' split) <;> omega) | grind)); exact rσ
                                · refine Fr.sI g ?_ (by decide); exact fσ
                                · exact trivial
                            · rw [if_neg hc6_13]
                              by_cases hc6_14 : v1 = 14
                              · rw [if_pos hc6_14]
                                unfold w_X16_told_198
                                try simp only [forall_eq, rII, rIJ, rIP, rJJ, rJI, rJP, rPP, rPI, rPJ, g1, g2, g3, g4, g5, g6, g7, g8, Nat.reduceEqDiff, Nat.reduceAdd, false_and, and_false, true_and, and_true, reduceIte, nZ0, nZ1]
                                have q13 := rσ.2.1 3; simp only [rgS] at q13
                                refine hQ _ _ ?_ ?_ ?_
                                · refine Rg.sI g ?_ (by simp only [rgS]; first | with_reducible exact nZ_rng _ | with_reducible exact nB_rng _ | with_reducible exact wr_rng _ | with_reducible exact i32any _ | (first | omega | with_reducible assumption | (unfold rng; omega) | (unfold rng; (repeat' split) <;> omega) | grind)); exact rσ
                                · refine Fr.sI g ?_ (by decide); exact fσ
                                · exact trivial
                              · rw [if_neg hc6_14]
                                unfold w_X16_told_203
                                try simp only [forall_eq, rII, rIJ, rIP, rJJ, rJI, rJP, rPP, rPI, rPJ, g1, g2, g3, g4, g5, g6, g7, g8, Nat.reduceEqDiff, Nat.reduceAdd, false_and, and_false, true_and, and_true, reduceIte, nZ0, nZ1]
                                refine hQ _ _ ?_ ?_ ?_
                                · refine Rg.sI g ?_ (by simp only [rgS]; first | with_reducible exact nZ_rng _ | with_reducible exact nB_rng _ | with_reducible exact wr_rng _ | with_reducible exact i32any _ | (first | omega | with_reducible assumption | (unfold rng; omega) | (unfold rng; (repeat' split) <;> omega) | grind)); exact rσ
                                · refine Fr.sI g ?_ (by decide); exact fσ
                                · exact trivial
set_option maxHeartbeats 2000000 in
theorem s_X16_records {ra : Nat → Nat} {jx : Nat → Nat → Nat} {rm : Nat} {ja : Nat} (g : Geo ra jx rm) {σ : Sg} {v1 : Int} {v2 : Int64} (rσ : Rg ra jx rm σ) (hj : gP σ rm 17 = none ∨ gP σ rm 17 = some ja) (hja : ja = ra 15 ∨ ja = ra 16) (hn : 0 ≤ gI σ ja 0 ∧ gI σ ja 0 ≤ 16) (hno : 0 ≤ gI σ ja 1 ∧ gI σ ja 1 ≤ 4) (b1 : -2147483648 ≤ v1 ∧ v1 ≤ 2147483647) {Q : Sg → Int → Prop} {X : Sg → String → Prop} (hQ : ∀ (σ' : Sg) (r : Int), Rg ra jx rm σ' → Fr ra jx rm [] [0] σ σ' → (True) → Q σ' r) : wp_X16_records ra jx rm v1 v2 σ Q X := by
  obtain ⟨g1, g2, g3, g4, g5, g6, g7, g8⟩ := id g
  have fσ : Fr ra jx rm [] [0] σ σ := Fr.rf
  unfold wp_X16_records
  unfold w_X16_records_0
  try simp only [forall_eq, rII, rIJ, rIP, rJJ, rJI, rJP, rPP, rPI, rPJ, g1, g2, g3, g4, g5, g6, g7, g8, Nat.reduceEqDiff, Nat.reduceAdd, false_and, and_false, true_and, and_true, reduceIte, nZ0, nZ1]
  split
  · rename_i hc5
    skip
    unfold w_X16_records_27
    try simp only [forall_eq, rII, rIJ, rIP, rJJ, rJI, rJP, rPP, rPI, rPJ, g1, g2, g3, g4, g5, g6, g7, g8, Nat.reduceEqDiff, Nat.reduceAdd, false_and, and_false, true_and, and_true, reduceIte, nZ0, nZ1]
    unfold w_X16_records_62
    try simp only [forall_eq, rII, rIJ, rIP, rJJ, rJI, rJP, rPP, rPI, rPJ, g1, g2, g3, g4, g5, g6, g7, g8, Nat.reduceEqDiff, Nat.reduceAdd, false_and, and_false, true_and, and_true, reduceIte, nZ0, nZ1]
    have L71 : ∀ (fu71 : Nat) (τ71 : Sg) (v4 : Int) (v5 : Int), Rg ra jx rm τ71 → Fr ra jx rm [] [0] σ τ71 → (0 ≤ v5 ∧ v5 ≤ 4000 ∧ 0 ≤ v4 ∧ v4 ≤ v5) → ((4000 - v5).toNat) < fu71 → wl_X16_records_71 ra jx rm Q X fu71 τ71 v1 v2 v4 v5 := by
      intro fu71
      induction fu71 with
      | zero => intro τ71 _ _ _ _ _ h9; omega
      | succ fu71 ih71 =>
        intro τ71 v4 v5 rτ71 fτ71 hi71 hm71
        unfold wl_X16_records_71
        have eτ71_98 := fτ71.1 98 (by decide)
        have eτ71_100 := fτ71.1 100 (by decide)
        have eτ71_102 := fτ71.1 102 (by decide)
        have sτ71_30 := fτ71.2.1 30 (by decide)
        have sτ71_32 := fτ71.2.1 32 (by decide)
        have sτ71_92 := fτ71.2.1 92 (by decide)
        have jτ71 := fτ71.2.2.1
        have pτ71 := fτ71.2.2.2
        unfold w_X16_records_71
        try simp only [forall_eq, rII, rIJ, rIP, rJJ, rJI, rJP, rPP, rPI, rPJ, g1, g2, g3, g4, g5, g6, g7, g8, Nat.reduceEqDiff, Nat.reduceAdd, false_and, and_false, true_and, and_true, reduceIte, nZ0, nZ1, eτ71_98.1, eτ71_98.2, eτ71_100.1, eτ71_100.2, eτ71_102.1, eτ71_102.2, sτ71_30.1, sτ71_30.2, sτ71_32.1, sτ71_32.2, sτ71_92.1, sτ71_92.2, fun a k => (jτ71 a k).1, fun a k => (jτ71 a k).2, pτ71]
        have q1 := rτ71.2.1 0; simp only [rgS] at q1
        split
        · rename_i hc75
          skip
          unfold w_X16_records_135
          try simp only [forall_eq, rII, rIJ, rIP, rJJ, rJI, rJP, rPP, rPI, rPJ, g1, g2, g3, g4, g5, g6, g7, g8, Nat.reduceEqDiff, Nat.reduceAdd, false_and, and_false, true_and, and_true, reduceIte, nZ0, nZ1, eτ71_98.1, eτ71_98.2, eτ71_100.1, eτ71_100.2, eτ71_102.1, eτ71_102.2, sτ71_30.1, sτ71_30.2, sτ71_32.1, sτ71_32.2, sτ71_92.1, sτ71_92.2, fun a k => (jτ71 a k).1, fun a k => (jτ71 a k).2, pτ71]
          refine hQ _ _ ?_ ?_ ?_
          · exact rτ71
          · exact fτ71
          · exact trivial
        · rename_i hc75
          skip
          unfold w_X16_records_78
          try simp only [forall_eq, rII, rIJ, rIP, rJJ, rJI, rJP, rPP, rPI, rPJ, g1, g2, g3, g4, g5, g6, g7, g8, Nat.reduceEqDiff, Nat.reduceAdd, false_and, and_false, true_and, and_true, reduceIte, nZ0, nZ1, eτ71_98.1, eτ71_98.2, eτ71_100.1, eτ71_100.2, eτ71_102.1, eτ71_102.2, sτ71_30.1, sτ71_30.2, sτ71_32.1, sτ71_32.2, sτ71_92.1, sτ71_92.2, fun a k => (jτ71 a k).1, fun a k => (jτ71 a k).2, pτ71]
          have q2 := rσ.2.1 92; simp only [rgS] at q2
          split
          · rename_i hc82
            skip
            unfold w_X16_records_135
            try simp only [forall_eq, rII, rIJ, rIP, rJJ, rJI, rJP, rPP, rPI, rPJ, g1, g2, g3, g4, g5, g6, g7, g8, Nat.reduceEqDiff, Nat.reduceAdd, false_and, and_false, true_and, and_true, reduceIte, nZ0, nZ1, eτ71_98.1, eτ71_98.2, eτ71_100.1, eτ71_100.2, eτ71_102.1, eτ71_102.2, sτ71_30.1, sτ71_30.2, sτ71_32.1, sτ71_32.2, sτ71_92.1, sτ71_92.2, fun a k => (jτ71 a k).1, fun a k => (jτ71 a k).2, pτ71]
            refine hQ _ _ ?_ ?_ ?_
            · exact rτ71
            · exact fτ71
            · exact trivial
          · rename_i hc82
            skip
            unfold w_X16_records_85
            try simp only [forall_eq, rII, rIJ, rIP, rJJ, rJI, rJP, rPP, rPI, rPJ, g1, g2, g3, g4, g5, g6, g7, g8, Nat.reduceEqDiff, Nat.reduceAdd, false_and, and_false, true_and, and_true, reduceIte, nZ0, nZ1, eτ71_98.1, eτ71_98.2, eτ71_100.1, eτ71_100.2, eτ71_102.1, eτ71_102.2, sτ71_30.1, sτ71_30.2, sτ71_32.1, sτ71_32.2, sτ71_92.1, sτ71_92.2, fun a k => (jτ71 a k).1, fun a k => (jτ71 a k).2, pτ71]
            have q3 := rσ.1 98 0; simp only [rgT] at q3
            split
            · rename_i hc93
              skip
              unfold w_X16_records_135
              try simp only [forall_eq, rII, rIJ, rIP, rJJ, rJI, rJP, rPP, rPI, rPJ, g1, g2, g3, g4, g5, g6, g7, g8, Nat.reduceEqDiff, Nat.reduceAdd, false_and, and_false, true_and, and_true, reduceIte, nZ0, nZ1, eτ71_98.1, eτ71_98.2, eτ71_100.1, eτ71_100.2, eτ71_102.1, eτ71_102.2, sτ71_30.1, sτ71_30.2, sτ71_32.1, sτ71_32.2, sτ71_92.1, sτ71_92.2, fun a k => (jτ71 a k).1, fun a k => (jτ71 a k).2, pτ71]
              refine hQ _ _ ?_ ?_ ?_
              · exact rτ71
              · exact fτ71
              · exact trivial
            · rename_i hc93
              skip
              unfold w_X16_records_96
              try simp only [forall_eq, rII, rIJ, rIP, rJJ, rJI, rJP, rPP, rPI, rPJ, g1, g2, g3, g4, g5, g6, g7, g8, Nat.reduceEqDiff, Nat.reduceAdd, false_and, and_false, true_and, and_true, reduceIte, nZ0, nZ1, eτ71_98.1, eτ71_98.2, eτ71_100.1, eτ71_100.2, eτ71_102.1, eτ71_102.2, sτ71_30.1, sτ71_30.2, sτ71_32.1, sτ71_32.2, sτ71_92.1, sτ71_92.2, fun a k => (jτ71 a k).1, fun a k => (jτ71 a k).2, pτ71]
              refine ⟨by (first | omega | with_reducible assumption | (unfold rng; omega) | (unfold rng; (repeat' split) <;> omega) | grind), ?_⟩
              have q4 := rσ.1 100 (v5.toNat); simp only [rgT] at q4
              split
              · rename_i hc106
                skip
                unfold w_X16_records_125
                try simp only [forall_eq, rII, rIJ, rIP, rJJ, rJI, rJP, rPP, rPI, rPJ, g1, g2, g3, g4, g5, g6, g7, g8, Nat.reduceEqDiff, Nat.reduceAdd, false_and, and_false, true_and, and_true, reduceIte, nZ0, nZ1, eτ71_98.1, eτ71_98.2, eτ71_100.1, eτ71_100.2, eτ71_102.1, eτ71_102.2, sτ71_30.1, sτ71_30.2, sτ71_32.1, sτ71_32.2, sτ71_92.1, sτ71_92.2, fun a k => (jτ71 a k).1, fun a k => (jτ71 a k).2, pτ71]
                unfold w_X16_records_126
                try simp only [forall_eq, rII, rIJ, rIP, rJJ, rJI, rJP, rPP, rPI, rPJ, g1, g2, g3, g4, g5, g6, g7, g8, Nat.reduceEqDiff, Nat.reduceAdd, false_and, and_false, true_and, and_true, reduceIte, nZ0, nZ1, eτ71_98.1, eτ71_98.2, eτ71_100.1, eτ71_100.2, eτ71_102.1, eτ71_102.2, sτ71_30.1, sτ71_30.2, sτ71_32.1, sτ71_32.2, sτ71_92.1, sτ71_92.2, fun a k => (jτ71 a k).1, fun a k => (jτ71 a k).2, pτ71]
                refine ⟨by (first | omega | with_reducible assumption | (unfold rng; omega) | (unfold rng; (repeat' split) <;> omega) | grind), ?_⟩
                refine ⟨by (first | omega | with_reducible assumption | (unfold rng; omega) | (unfold rng; (repeat' split) <;> omega) | grind), ?_⟩
                refine ih71 _ _ _ ?_ ?_ ?_ ?_
                · exact rτ71
                · exact fτ71
                · (try simp only [rII, rIJ, rIP, rJJ, rJI, rJP, rPP, rPI, rPJ, g1, g2, g3, g4, g5, g6, g7, g8, Nat.reduceEqDiff, Nat.reduceAdd, false_and, and_false, true_and, and_true, reduceIte, nZ0, nZ1, eτ71_98.1, eτ71_98.2, eτ71_100.1, eτ71_100.2, eτ71_102.1, eτ71_102.2, sτ71_30.1, sτ71_30.2, sτ71_32.1, sτ71_32.2, sτ71_92.1, sτ71_92.2, fun a k => (jτ71 a k).1, fun a k => (jτ71 a k).2, pτ71]) <;> (first | omega | with_reducible assumption | (unfold rng; omega) | (unfold rng; (repeat' split) <;> omega) | grind)
                · (try simp only [rII, rIJ, rIP, rJJ, rJI, rJP, rPP, rPI, rPJ, g1, g2, g3, g4, g5, g6, g7, g8, Nat.reduceEqDiff, Nat.reduceAdd, false_and, and_false, true_and, and_true, reduceIte, nZ0, nZ1, eτ71_98.1, eτ71_98.2, eτ71_100.1, eτ71_100.2, eτ71_102.1, eτ71_102.2, sτ71_30.1, sτ71_30.2, sτ71_32.1, sτ71_32.2, sτ71_92.1, sτ71_92.2, fun a k => (jτ71 a k).1, fun a k => (jτ71 a k).2, pτ71]) <;> (first | omega | with_reducible assumption | (unfold rng; omega) | (unfold rng; (repeat' split) <;> omega) | grind)
              · rename_i hc106
                skip
                unfold w_X16_records_109
                try simp only [forall_eq, rII, rIJ, rIP, rJJ, rJI, rJP, rPP, rPI, rPJ, g1, g2, g3, g4, g5, g6, g7, g8, Nat.reduceEqDiff, Nat.reduceAdd, false_and, and_false, true_and, and_true, reduceIte, nZ0, nZ1, eτ71_98.1, eτ71_98.2, eτ71_100.1, eτ71_100.2, eτ71_102.1, eτ71_102.2, sτ71_30.1, sτ71_30.2, sτ71_32.1, sτ71_32.2, sτ71_92.1, sτ71_92.2, fun a k => (jτ71 a k).1, fun a k => (jτ71 a k).2, pτ71]
                refine ⟨by (first | omega | with_reducible assumption | (unfold rng; omega) | (unfold rng; (repeat' split) <;> omega) | grind), ?_⟩
                split
                · rename_i hc118
                  skip
                  unfold w_X16_records_125
                  try simp only [forall_eq, rII, rIJ, rIP, rJJ, rJI, rJP, rPP, rPI, rPJ, g1, g2, g3, g4, g5, g6, g7, g8, Nat.reduceEqDiff, Nat.reduceAdd, false_and, and_false, true_and, and_true, reduceIte, nZ0, nZ1, eτ71_98.1, eτ71_98.2, eτ71_100.1, eτ71_100.2, eτ71_102.1, eτ71_102.2, sτ71_30.1, sτ71_30.2, sτ71_32.1, sτ71_32.2, sτ71_92.1, sτ71_92.2, fun a k => (jτ71 a k).1, fun a k => (jτ71 a k).2, pτ71]
                  unfold w_X16_records_126
                  try simp only [forall_eq, rII, rIJ, rIP, rJJ, rJI, rJP, rPP, rPI, rPJ, g1, g2, g3, g4, g5, g6, g7, g8, Nat.reduceEqDiff, Nat.reduceAdd, false_and, and_false, true_and, and_true, reduceIte, nZ0, nZ1, eτ71_98.1, eτ71_98.2, eτ71_100.1, eτ71_100.2, eτ71_102.1, eτ71_102.2, sτ71_30.1, sτ71_30.2, sτ71_32.1, sτ71_32.2, sτ71_92.1, sτ71_92.2, fun a k => (jτ71 a k).1, fun a k => (jτ71 a k).2, pτ71]
                  refine ⟨by (first | omega | with_reducible assumption | (unfold rng; omega) | (unfold rng; (repeat' split) <;> omega) | grind), ?_⟩
                  refine ⟨by (first | omega | with_reducible assumption | (unfold rng; omega) | (unfold rng; (repeat' split) <;> omega) | grind), ?_⟩
                  refine ih71 _ _ _ ?_ ?_ ?_ ?_
                  · exact rτ71
                  · exact fτ71
                  · (try simp only [rII, rIJ, rIP, rJJ, rJI, rJP, rPP, rPI, rPJ, g1, g2, g3, g4, g5, g6, g7, g8, Nat.reduceEqDiff, Nat.reduceAdd, false_and, and_false, true_and, and_true, reduceIte, nZ0, nZ1, eτ71_98.1, eτ71_98.2, eτ71_100.1, eτ71_100.2, eτ71_102.1, eτ71_102.2, sτ71_30.1, sτ71_30.2, sτ71_32.1, sτ71_32.2, sτ71_92.1, sτ71_92.2, fun a k => (jτ71 a k).1, fun a k => (jτ71 a k).2, pτ71]) <;> (first | omega | with_reducible assumption | (unfold rng; omega) | (unfold rng; (repeat' split) <;> omega) | grind)
                  · (try simp only [rII, rIJ, rIP, rJJ, rJI, rJP, rPP, rPI, rPJ, g1, g2, g3, g4, g5, g6, g7, g8, Nat.reduceEqDiff, Nat.reduceAdd, false_and, and_false, true_and, and_true, reduceIte, nZ0, nZ1, eτ71_98.1, eτ71_98.2, eτ71_100.1, eτ71_100.2, eτ71_102.1, eτ71_102.2, sτ71_30.1, sτ71_30.2, sτ71_32.1, sτ71_32.2, sτ71_92.1, sτ71_92.2, fun a k => (jτ71 a k).1, fun a k => (jτ71 a k).2, pτ71]) <;> (first | omega | with_reducible assumption | (unfold rng; omega) | (unfold rng; (repeat' split) <;> omega) | grind)
                · rename_i hc118
                  skip
                  unfold w_X16_records_121
                  try simp only [forall_eq, rII, rIJ, rIP, rJJ, rJI, rJP, rPP, rPI, rPJ, g1, g2, g3, g4, g5, g6, g7, g8, Nat.reduceEqDiff, Nat.reduceAdd, false_and, and_false, true_and, and_true, reduceIte, nZ0, nZ1, eτ71_98.1, eτ71_98.2, eτ71_100.1, eτ71_100.2, eτ71_102.1, eτ71_102.2, sτ71_30.1, sτ71_30.2, sτ71_32.1, sτ71_32.2, sτ71_92.1, sτ71_92.2, fun a k => (jτ71 a k).1, fun a k => (jτ71 a k).2, pτ71]
                  unfold w_X16_records_126
                  try simp only [forall_eq, rII, rIJ, rIP, rJJ, rJI, rJP, rPP, rPI, rPJ, g1, g2, g3, g4, g5, g6, g7, g8, Nat.reduceEqDiff, Nat.reduceAdd, false_and, and_false, true_and, and_true, reduceIte, nZ0, nZ1, eτ71_98.1, eτ71_98.2, eτ71_100.1, eτ71_100.2, eτ71_102.1, eτ71_102.2, sτ71_30.1, sτ71_30.2, sτ71_32.1, sτ71_32.2, sτ71_92.1, sτ71_92.2, fun a k => (jτ71 a k).1, fun a k => (jτ71 a k).2, pτ71]
                  refine ⟨by (first | omega | with_reducible assumption | (unfold rng; omega) | (unfold rng; (repeat' split) <;> omega) | grind), ?_⟩
                  refine ⟨by (first | omega | with_reducible assumption | (unfold rng; omega) | (unfold rng; (repeat' split) <;> omega) | grind), ?_⟩
                  refine ih71 _ _ _ ?_ ?_ ?_ ?_
                  · exact rτ71
                  · exact fτ71
                  · (try simp only [rII, rIJ, rIP, rJJ, rJI, rJP, rPP, rPI, rPJ, g1, g2, g3, g4, g5, g6, g7, g8, Nat.reduceEqDiff, Nat.reduceAdd, false_and, and_false, true_and, and_true, reduceIte, nZ0, nZ1, eτ71_98.1, eτ71_98.2, eτ71_100.1, eτ71_100.2, eτ71_102.1, eτ71_102.2, sτ71_30.1, sτ71_30.2, sτ71_32.1, sτ71_32.2, sτ71_92.1, sτ71_92.2, fun a k => (jτ71 a k).1, fun a k => (jτ71 a k).2, pτ71]) <;> (first | omega | with_reducible assumption | (unfold rng; omega) | (unfold rng; (repeat' split) <;> omega) | grind)
                  · (try simp only [rII, rIJ, rIP, rJJ, rJI, rJP, rPP, rPI, rPJ, g1, g2, g3, g4, g5, g6, g7, g8, Nat.reduceEqDiff, Nat.reduceAdd, false_and, and_false, true_and, and_true, reduceIte, nZ0, nZ1, eτ71_98.1, eτ71_98.2, eτ71_100.1, eτ71_100.2, eτ71_102.1, eτ71_102.2, sτ71_30.1, sτ71_30.2, sτ71_32.1, sτ71_32.2, sτ71_92.1, sτ71_92.2, fun a k => (jτ71 a k).1, fun a k => (jτ71 a k).2, pτ71]) <;> (first | omega | with_reducible assumption | (unfold rng; omega) | (unfold rng; (repeat' split) <;> omega) | grind)
    refine ⟨_, L71 _ _ _ _ ?_ ?_ ?_ (Nat.lt_succ_self _)⟩
    · refine Rg.sI g ?_ (by simp only [rgS]; first | with_reducible exact nZ_rng _ | with_reducible exact nB_rng _ | with_reducible exact wr_rng _ | with_reducible exact i32any _ | (first | omega | with_reducible assumption | (unfold rng; omega) | (unfold rng; (repeat' split) <;> omega) | grind)); exact rσ
    · refine Fr.sI g ?_ (by decide); exact fσ
    · (try simp only [rII, rIJ, rIP, rJJ, rJI, rJP, rPP, rPI, rPJ, g1, g2, g3, g4, g5, g6, g7, g8, Nat.reduceEqDiff, Nat.reduceAdd, false_and, and_false, true_and, and_true, reduceIte, nZ0, nZ1]) <;> (first | omega | with_reducible assumption | (unfold rng; omega) | (unfold rng; (repeat' split) <;> omega) | grind)
  · rename_i hc5
    skip
    unfold w_X16_records_8
    try simp only [forall_eq, rII, rIJ, rIP, rJJ, rJI, rJP, rPP, rPI, rPJ, g1, g2, g3, g4, g5, g6, g7, g8, Nat.reduceEqDiff, Nat.reduceAdd, false_and, and_false, true_and, and_true, reduceIte, nZ0, nZ1]
    refine ⟨ja, by exact hj.resolve_left (by assumption), hja, ?_⟩
    refine ⟨by (first | omega | with_reducible assumption | (unfold rng; omega) | (unfold rng; (repeat' split) <;> omega) | grind), ?_⟩
    refine s_X16_within g rσ (fun r16 p6 => ?_)
    obtain ⟨p6, p6b⟩ := p6
    have p6w : r16 = 1 → 0 ≤ v1 ∧ v1 ≤ ((gI σ ja 0) - 1) := fun e => win2 (by (first | omega | with_reducible assumption | (unfold rng; omega) | (unfold rng; (repeat' split) <;> omega) | grind)) (by (first | omega | with_reducible assumption | (unfold rng; omega) | (unfold rng; (repeat' split) <;> omega) | grind)) (by (first | omega | with_reducible assumption | (unfold rng; omega) | (unfold rng; (repeat' split) <;> omega) | grind)) (p6b e)
    try simp only [forall_eq, rII, rIJ, rIP, rJJ, rJI, rJP, rPP, rPI, rPJ, g1, g2, g3, g4, g5, g6, g7, g8, Nat.reduceEqDiff, Nat.reduceAdd, false_and, and_false, true_and, and_true, reduceIte, nZ0, nZ1]
    split
    · rename_i hc24
      skip
      unfold w_X16_records_31
      try simp only [forall_eq, rII, rIJ, rIP, rJJ, rJI, rJP, rPP, rPI, rPJ, g1, g2, g3, g4, g5, g6, g7, g8, Nat.reduceEqDiff, Nat.reduceAdd, false_and, and_false, true_and, and_true, reduceIte, nZ0, nZ1]
      have q7 := rσ.2.1 30; simp only [rgS] at q7
      split
      · rename_i hc35
        skip
        unfold w_X16_records_45
        try simp only [forall_eq, rII, rIJ, rIP, rJJ, rJI, rJP, rPP, rPI, rPJ, g1, g2, g3, g4, g5, g6, g7, g8, Nat.reduceEqDiff, Nat.reduceAdd, false_and, and_false, true_and, and_true, reduceIte, nZ0, nZ1]
        unfold w_X16_records_62
        try simp only [forall_eq, rII, rIJ, rIP, rJJ, rJI, rJP, rPP, rPI, rPJ, g1, g2, g3, g4, g5, g6, g7, g8, Nat.reduceEqDiff, Nat.reduceAdd, false_and, and_false, true_and, and_true, reduceIte, nZ0, nZ1]
        have L71 : ∀ (fu71 : Nat) (τ71 : Sg) (v4 : Int) (v5 : Int), Rg ra jx rm τ71 → Fr ra jx rm [] [0] σ τ71 → (0 ≤ v5 ∧ v5 ≤ 4000 ∧ 0 ≤ v4 ∧ v4 ≤ v5) → ((4000 - v5).toNat) < fu71 → wl_X16_records_71 ra jx rm Q X fu71 τ71 v1 v2 v4 v5 := by
          intro fu71
          induction fu71 with
          | zero => intro τ71 _ _ _ _ _ h9; omega
          | succ fu71 ih71 =>
            intro τ71 v4 v5 rτ71 fτ71 hi71 hm71
            unfold wl_X16_records_71
            have eτ71_98 := fτ71.1 98 (by decide)
            have eτ71_100 := fτ71.1 100 (by decide)
            have eτ71_102 := fτ71.1 102 (by decide)
            have sτ71_30 := fτ71.2.1 30 (by decide)
            have sτ71_32 := fτ71.2.1 32 (by decide)
            have sτ71_92 := fτ71.2.1 92 (by decide)
            have jτ71 := fτ71.2.2.1
            have pτ71 := fτ71.2.2.2
            unfold w_X16_records_71
            try simp only [forall_eq, rII, rIJ, rIP, rJJ, rJI, rJP, rPP, rPI, rPJ, g1, g2, g3, g4, g5, g6, g7, g8, Nat.reduceEqDiff, Nat.reduceAdd, false_and, and_false, true_and, and_true, reduceIte, nZ0, nZ1, eτ71_98.1, eτ71_98.2, eτ71_100.1, eτ71_100.2, eτ71_102.1, eτ71_102.2, sτ71_30.1, sτ71_30.2, sτ71_32.1, sτ71_32.2, sτ71_92.1, sτ71_92.2, fun a k => (jτ71 a k).1, fun a k => (jτ71 a k).2, pτ71]
            have q8 := rτ71.2.1 0; simp only [rgS] at q8
            split
            · rename_i hc75
              skip
              unfold w_X16_records_135
              try simp only [forall_eq, rII, rIJ, rIP, rJJ, rJI, rJP, rPP, rPI, rPJ, g1, g2, g3, g4, g5, g6, g7, g8, Nat.reduceEqDiff, Nat.reduceAdd, false_and, and_false, true_and, and_true, reduceIte, nZ0, nZ1, eτ71_98.1, eτ71_98.2, eτ71_100.1, eτ71_100.2, eτ71_102.1, eτ71_102.2, sτ71_30.1, sτ71_30.2, sτ71_32.1, sτ71_32.2, sτ71_92.1, sτ71_92.2, fun a k => (jτ71 a k).1, fun a k => (jτ71 a k).2, pτ71]
              refine hQ _ _ ?_ ?_ ?_
              · exact rτ71
              · exact fτ71
              · exact trivial
            · rename_i hc75
              skip
              unfold w_X16_records_78
              try simp only [forall_eq, rII, rIJ, rIP, rJJ, rJI, rJP, rPP, rPI, rPJ, g1, g2, g3, g4, g5, g6, g7, g8, Nat.reduceEqDiff, Nat.reduceAdd, false_and, and_false, true_and, and_true, reduceIte, nZ0, nZ1, eτ71_98.1, eτ71_98.2, eτ71_100.1, eτ71_100.2, eτ71_102.1, eτ71_102.2, sτ71_30.1, sτ71_30.2, sτ71_32.1, sτ71_32.2, sτ71_92.1, sτ71_92.2, fun a k => (jτ71 a k).1, fun a k => (jτ71 a k).2, pτ71]
              have q9 := rσ.2.1 92; simp only [rgS] at q9
              split
              · rename_i hc82
                skip
                unfold w_X16_records_135
                try simp only [forall_eq, rII, rIJ, rIP, rJJ, rJI, rJP, rPP, rPI, rPJ, g1, g2, g3, g4, g5, g6, g7, g8, Nat.reduceEqDiff, Nat.reduceAdd, false_and, and_false, true_and, and_true, reduceIte, nZ0, nZ1, eτ71_98.1, eτ71_98.2, eτ71_100.1, eτ71_100.2, eτ71_102.1, eτ71_102.2, sτ71_30.1, sτ71_30.2, sτ71_32.1, sτ71_32.2, sτ71_92.1, sτ71_92.2, fun a k => (jτ71 a k).1, fun a k => (jτ71 a k).2, pτ71]
                refine hQ _ _ ?_ ?_ ?_
                · exact rτ71
                · exact fτ71
                · exact trivial
              · rename_i hc82
                skip
                unfold w_X16_records_85
                try simp only [forall_eq, rII, rIJ, rIP, rJJ, rJI, rJP, rPP, rPI, rPJ, g1, g2, g3, g4, g5, g6, g7, g8, Nat.reduceEqDiff, Nat.reduceAdd, false_and, and_false, true_and, and_true, reduceIte, nZ0, nZ1, eτ71_98.1, eτ71_98.2, eτ71_100.1, eτ71_100.2, eτ71_102.1, eτ71_102.2, sτ71_30.1, sτ71_30.2, sτ71_32.1, sτ71_32.2, sτ71_92.1, sτ71_92.2, fun a k => (jτ71 a k).1, fun a k => (jτ71 a k).2, pτ71]
                have q10 := rσ.1 98 0; simp only [rgT] at q10
                split
                · rename_i hc93
                  skip
                  unfold w_X16_records_135
                  try simp only [forall_eq, rII, rIJ, rIP, rJJ, rJI, rJP, rPP, rPI, rPJ, g1, g2, g3, g4, g5, g6, g7, g8, Nat.reduceEqDiff, Nat.reduceAdd, false_and, and_false, true_and, and_true, reduceIte, nZ0, nZ1, eτ71_98.1, eτ71_98.2, eτ71_100.1, eτ71_100.2, eτ71_102.1, eτ71_102.2, sτ71_30.1, sτ71_30.2, sτ71_32.1, sτ71_32.2, sτ71_92.1, sτ71_92.2, fun a k => (jτ71 a k).1, fun a k => (jτ71 a k).2, pτ71]
                  refine hQ _ _ ?_ ?_ ?_
                  · exact rτ71
                  · exact fτ71
                  · exact trivial
                · rename_i hc93
                  skip
                  unfold w_X16_records_96
                  try simp only [forall_eq, rII, rIJ, rIP, rJJ, rJI, rJP, rPP, rPI, rPJ, g1, g2, g3, g4, g5, g6, g7, g8, Nat.reduceEqDiff, Nat.reduceAdd, false_and, and_false, true_and, and_true, reduceIte, nZ0, nZ1, eτ71_98.1, eτ71_98.2, eτ71_100.1, eτ71_100.2, eτ71_102.1, eτ71_102.2, sτ71_30.1, sτ71_30.2, sτ71_32.1, sτ71_32.2, sτ71_92.1, sτ71_92.2, fun a k => (jτ71 a k).1, fun a k => (jτ71 a k).2, pτ71]
                  refine ⟨by (first | omega | with_reducible assumption | (unfold rng; omega) | (unfold rng; (repeat' split) <;> omega) | grind), ?_⟩
                  have q11 := rσ.1 100 (v5.toNat); simp only [rgT] at q11
                  split
                  · rename_i hc106
                    skip
                    unfold w_X16_records_125
                    try simp only [forall_eq, rII, rIJ, rIP, rJJ, rJI, rJP, rPP, rPI, rPJ, g1, g2, g3, g4, g5, g6, g7, g8, Nat.reduceEqDiff, Nat.reduceAdd, false_and, and_false, true_and, and_true, reduceIte, nZ0, nZ1, eτ71_98.1, eτ71_98.2, eτ71_100.1, eτ71_100.2, eτ71_102.1, eτ71_102.2, sτ71_30.1, sτ71_30.2, sτ71_32.1, sτ71_32.2, sτ71_92.1, sτ71_92.2, fun a k => (jτ71 a k).1, fun a k => (jτ71 a k).2, pτ71]
                    unfold w_X16_records_126
                    try simp only [forall_eq, rII, rIJ, rIP, rJJ, rJI, rJP, rPP, rPI, rPJ, g1, g2, g3, g4, g5, g6, g7, g8, Nat.reduceEqDiff, Nat.reduceAdd, false_and, and_false, true_and, and_true, reduceIte, nZ0, nZ1, eτ71_98.1, eτ71_98.2, eτ71_100.1, eτ71_100.2, eτ71_102.1, eτ71_102.2, sτ71_30.1, sτ71_30.2, sτ71_32.1, sτ71_32.2, sτ71_92.1, sτ71_92.2, fun a k => (jτ71 a k).1, fun a k => (jτ71 a k).2, pτ71]
                    refine ⟨by (first | omega | with_reducible assumption | (unfold rng; omega) | (unfold rng; (repeat' split) <;> omega) | grind), ?_⟩
                    refine ⟨by (first | omega | with_reducible assumption | (unfold rng; omega) | (unfold rng; (repeat' split) <;> omega) | grind), ?_⟩
                    refine ih71 _ _ _ ?_ ?_ ?_ ?_
                    · exact rτ71
                    · exact fτ71
                    · (try simp only [rII, rIJ, rIP, rJJ, rJI, rJP, rPP, rPI, rPJ, g1, g2, g3, g4, g5, g6, g7, g8, Nat.reduceEqDiff, Nat.reduceAdd, false_and, and_false, true_and, and_true, reduceIte, nZ0, nZ1, eτ71_98.1, eτ71_98.2, eτ71_100.1, eτ71_100.2, eτ71_102.1, eτ71_102.2, sτ71_30.1, sτ71_30.2, sτ71_32.1, sτ71_32.2, sτ71_92.1, sτ71_92.2, fun a k => (jτ71 a k).1, fun a k => (jτ71 a k).2, pτ71]) <;> (first | omega | with_reducible assumption | (unfold rng; omega) | (unfold rng; (repeat' split) <;> omega) | grind)
                    · (try simp only [rII, rIJ, rIP, rJJ, rJI, rJP, rPP, rPI, rPJ, g1, g2, g3, g4, g5, g6, g7, g8, Nat.reduceEqDiff, Nat.reduceAdd, false_and, and_false, true_and, and_true, reduceIte, nZ0, nZ1, eτ71_98.1, eτ71_98.2, eτ71_100.1, eτ71_100.2, eτ71_102.1, eτ71_102.2, sτ71_30.1, sτ71_30.2, sτ71_32.1, sτ71_32.2, sτ71_92.1, sτ71_92.2, fun a k => (jτ71 a k).1, fun a k => (jτ71 a k).2, pτ71]) <;> (first | omega | with_reducible assumption | (unfold rng; omega) | (unfold rng; (repeat' split) <;> omega) | grind)
                  · rename_i hc106
                    skip
                    unfold w_X16_records_109
                    try simp only [forall_eq, rII, rIJ, rIP, rJJ, rJI, rJP, rPP, rPI, rPJ, g1, g2, g3, g4, g5, g6, g7, g8, Nat.reduceEqDiff, Nat.reduceAdd, false_and, and_false, true_and, and_true, reduceIte, nZ0, nZ1, eτ71_98.1, eτ71_98.2, eτ71_100.1, eτ71_100.2, eτ71_102.1, eτ71_102.2, sτ71_30.1, sτ71_30.2, sτ71_32.1, sτ71_32.2, sτ71_92.1, sτ71_92.2, fun a k => (jτ71 a k).1, fun a k => (jτ71 a k).2, pτ71]
                    refine ⟨by (first | omega | with_reducible assumption | (unfold rng; omega) | (unfold rng; (repeat' split) <;> omega) | grind), ?_⟩
                    split
                    · rename_i hc118
                      skip
                      unfold w_X16_records_125
                      try simp only [forall_eq, rII, rIJ, rIP, rJJ, rJI, rJP, rPP, rPI, rPJ, g1, g2, g3, g4, g5, g6, g7, g8, Nat.reduceEqDiff, Nat.reduceAdd, false_and, and_false, true_and, and_true, reduceIte, nZ0, nZ1, eτ71_98.1, eτ71_98.2, eτ71_100.1, eτ71_100.2, eτ71_102.1, eτ71_102.2, sτ71_30.1, sτ71_30.2, sτ71_32.1, sτ71_32.2, sτ71_92.1, sτ71_92.2, fun a k => (jτ71 a k).1, fun a k => (jτ71 a k).2, pτ71]
                      unfold w_X16_records_126
                      try simp only [forall_eq, rII, rIJ, rIP, rJJ, rJI, rJP, rPP, rPI, rPJ, g1, g2, g3, g4, g5, g6, g7, g8, Nat.reduceEqDiff, Nat.reduceAdd, false_and, and_false, true_and, and_true, reduceIte, nZ0, nZ1, eτ71_98.1, eτ71_98.2, eτ71_100.1, eτ71_100.2, eτ71_102.1, eτ71_102.2, sτ71_30.1, sτ71_30.2, sτ71_32.1, sτ71_32.2, sτ71_92.1, sτ71_92.2, fun a k => (jτ71 a k).1, fun a k => (jτ71 a k).2, pτ71]
                      refine ⟨by (first | omega | with_reducible assumption | (unfold rng; omega) | (unfold rng; (repeat' split) <;> omega) | grind), ?_⟩
                      refine ⟨by (first | omega | with_reducible assumption | (unfold rng; omega) | (unfold rng; (repeat' split) <;> omega) | grind), ?_⟩
                      refine ih71 _ _ _ ?_ ?_ ?_ ?_
                      · exact rτ71
                      · exact fτ71
                      · (try simp only [rII, rIJ, rIP, rJJ, rJI, rJP, rPP, rPI, rPJ, g1, g2, g3, g4, g5, g6, g7, g8, Nat.reduceEqDiff, Nat.reduceAdd, false_and, and_false, true_and, and_true, reduceIte, nZ0, nZ1, eτ71_98.1, eτ71_98.2, eτ71_100.1, eτ71_100.2, eτ71_102.1, eτ71_102.2, sτ71_30.1, sτ71_30.2, sτ71_32.1, sτ71_32.2, sτ71_92.1, sτ71_92.2, fun a k => (jτ71 a k).1, fun a k => (jτ71 a k).2, pτ71]) <;> (first | omega | with_reducible assumption | (unfold rng; omega) | (unfold rng; (repeat' split) <;> omega) | grind)
                      · (try simp only [rII, rIJ, rIP, rJJ, rJI, rJP, rPP, rPI, rPJ, g1, g2, g3, g4, g5, g6, g7, g8, Nat.reduceEqDiff, Nat.reduceAdd, false_and, and_false, true_and, and_true, reduceIte, nZ0, nZ1, eτ71_98.1, eτ71_98.2, eτ71_100.1, eτ71_100.2, eτ71_102.1, eτ71_102.2, sτ71_30.1, sτ71_30.2, sτ71_32.1, sτ71_32.2, sτ71_92.1, sτ71_92.2, fun a k => (jτ71 a k).1, fun a k => (jτ71 a k).2, pτ71]) <;> (first | omega | with_reducible assumption | (unfold rng; omega) | (unfold rng; (repeat' split) <;> omega) | grind)
                    · rename_i hc118
                      skip
                      unfold w_X16_records_121
                      try simp only [forall_eq, rII, rIJ, rIP, rJJ, rJI, rJP, rPP, rPI, rPJ, g1, g2, g3, g4, g5, g6, g7, g8, Nat.reduceEqDiff, Nat.reduceAdd, false_and, and_false, true_and, and_true, reduceIte, nZ0, nZ1, eτ71_98.1, eτ71_98.2, eτ71_100.1, eτ71_100.2, eτ71_102.1, eτ71_102.2, sτ71_30.1, sτ71_30.2, sτ71_32.1, sτ71_32.2, sτ71_92.1, sτ71_92.2, fun a k => (jτ71 a k).1, fun a k => (jτ71 a k).2, pτ71]
                      unfold w_X16_records_126
                      try simp only [forall_eq, rII, rIJ, rIP, rJJ, rJI, rJP, rPP, rPI, rPJ, g1, g2, g3, g4, g5, g6, g7, g8, Nat.reduceEqDiff, Nat.reduceAdd, false_and, and_false, true_and, and_true, reduceIte, nZ0, nZ1, eτ71_98.1, eτ71_98.2, eτ71_100.1, eτ71_100.2, eτ71_102.1, eτ71_102.2, sτ71_30.1, sτ71_30.2, sτ71_32.1, sτ71_32.2, sτ71_92.1, sτ71_92.2, fun a k => (jτ71 a k).1, fun a k => (jτ71 a k).2, pτ71]
                      refine ⟨by (first | omega | with_reducible assumption | (unfold rng; omega) | (unfold rng; (repeat' split) <;> omega) | grind), ?_⟩
                      refine ⟨by (first | omega | with_reducible assumption | (unfold rng; omega) | (unfold rng; (repeat' split) <;> omega) | grind), ?_⟩
                      refine ih71 _ _ _ ?_ ?_ ?_ ?_
                      · exact rτ71
                      · exact fτ71
                      · (try simp only [rII, rIJ, rIP, rJJ, rJI, rJP, rPP, rPI, rPJ, g1, g2, g3, g4, g5, g6, g7, g8, Nat.reduceEqDiff, Nat.reduceAdd, false_and, and_false, true_and, and_true, reduceIte, nZ0, nZ1, eτ71_98.1, eτ71_98.2, eτ71_100.1, eτ71_100.2, eτ71_102.1, eτ71_102.2, sτ71_30.1, sτ71_30.2, sτ71_32.1, sτ71_32.2, sτ71_92.1, sτ71_92.2, fun a k => (jτ71 a k).1, fun a k => (jτ71 a k).2, pτ71]) <;> (first | omega | with_reducible assumption | (unfold rng; omega) | (unfold rng; (repeat' split) <;> omega) | grind)
                      · (try simp only [rII, rIJ, rIP, rJJ, rJI, rJP, rPP, rPI, rPJ, g1, g2, g3, g4, g5, g6, g7, g8, Nat.reduceEqDiff, Nat.reduceAdd, false_and, and_false, true_and, and_true, reduceIte, nZ0, nZ1, eτ71_98.1, eτ71_98.2, eτ71_100.1, eτ71_100.2, eτ71_102.1, eτ71_102.2, sτ71_30.1, sτ71_30.2, sτ71_32.1, sτ71_32.2, sτ71_92.1, sτ71_92.2, fun a k => (jτ71 a k).1, fun a k => (jτ71 a k).2, pτ71]) <;> (first | omega | with_reducible assumption | (unfold rng; omega) | (unfold rng; (repeat' split) <;> omega) | grind)
        refine ⟨_, L71 _ _ _ _ ?_ ?_ ?_ (Nat.lt_succ_self _)⟩
        · refine Rg.sI g ?_ (by simp only [rgS]; first | with_reducible exact nZ_rng _ | with_reducible exact nB_rng _ | with_reducible exact wr_rng _ | with_reducible exact i32any _ | (first | omega | with_reducible assumption | (unfold rng; omega) | (unfold rng; (repeat' split) <;> omega) | grind)); exact rσ
        · refine Fr.sI g ?_ (by decide); exact fσ
        · (try simp only [rII, rIJ, rIP, rJJ, rJI, rJP, rPP, rPI, rPJ, g1, g2, g3, g4, g5, g6, g7, g8, Nat.reduceEqDiff, Nat.reduceAdd, false_and, and_false, true_and, and_true, reduceIte, nZ0, nZ1]) <;> (first | omega | with_reducible assumption | (unfold rng; omega) | (unfold rng; (repeat' split) <;> omega) | grind)
      · rename_i hc35
        skip
        unfold w_X16_records_38
        try simp only [forall_eq, rII, rIJ, rIP, rJJ, rJI, rJP, rPP, rPI, rPJ, g1, g2, g3, g4, g5, g6, g7, g8, Nat.reduceEqDiff, Nat.reduceAdd, false_and, and_false, true_and, and_true, reduceIte, nZ0, nZ1]
        have q12 := rσ.2.1 32; simp only [rgS] at q12
        split
        · rename_i hc42
          skip
          unfold w_X16_records_49
          try simp only [forall_eq, rII, rIJ, rIP, rJJ, rJI, rJP, rPP, rPI, rPJ, g1, g2, g3, g4, g5, g6, g7, g8, Nat.reduceEqDiff, Nat.reduceAdd, false_and, and_false, true_and, and_true, reduceIte, nZ0, nZ1]
          refine s_X16_isKeyed g rσ (hj.resolve_left (by assumption)) hja (by (try simp only [rII, rIJ, rIP, rJJ, rJI, rJP, rPP, rPI, rPJ, g1, g2, g3, g4, g5, g6, g7, g8, Nat.reduceEqDiff, Nat.reduceAdd, false_and, and_false, true_and, and_true, reduceIte, nZ0, nZ1]) <;> (first | omega | with_reducible assumption | (unfold rng; omega) | (unfold rng; (repeat' split) <;> omega) | grind)) (fun r19 p13 => ?_)
          try simp only [forall_eq, rII, rIJ, rIP, rJJ, rJI, rJP, rPP, rPI, rPJ, g1, g2, g3, g4, g5, g6, g7, g8, Nat.reduceEqDiff, Nat.reduceAdd, false_and, and_false, true_and, and_true, reduceIte, nZ0, nZ1]
          split
          · rename_i hc54
            skip
            unfold w_X16_records_61
            try simp only [forall_eq, rII, rIJ, rIP, rJJ, rJI, rJP, rPP, rPI, rPJ, g1, g2, g3, g4, g5, g6, g7, g8, Nat.reduceEqDiff, Nat.reduceAdd, false_and, and_false, true_and, and_true, reduceIte, nZ0, nZ1]
            unfold w_X16_records_62
            try simp only [forall_eq, rII, rIJ, rIP, rJJ, rJI, rJP, rPP, rPI, rPJ, g1, g2, g3, g4, g5, g6, g7, g8, Nat.reduceEqDiff, Nat.reduceAdd, false_and, and_false, true_and, and_true, reduceIte, nZ0, nZ1]
            have L71 : ∀ (fu71 : Nat) (τ71 : Sg) (v4 : Int) (v5 : Int), Rg ra jx rm τ71 → Fr ra jx rm [] [0] σ τ71 → (0 ≤ v5 ∧ v5 ≤ 4000 ∧ 0 ≤ v4 ∧ v4 ≤ v5) → ((4000 - v5).toNat) < fu71 → wl_X16_records_71 ra jx rm Q X fu71 τ71 v1 v2 v4 v5 := by
              intro fu71
              induction fu71 with
              | zero => intro τ71 _ _ _ _ _ h9; omega
              | succ fu71 ih71 =>
                intro τ71 v4 v5 rτ71 fτ71 hi71 hm71
                unfold wl_X16_records_71
                have eτ71_98 := fτ71.1 98 (by decide)
                have eτ71_100 := fτ71.1 100 (by decide)
                have eτ71_102 := fτ71.1 102 (by decide)
                have sτ71_30 := fτ71.2.1 30 (by decide)
                have sτ71_32 := fτ71.2.1 32 (by decide)
                have sτ71_92 := fτ71.2.1 92 (by decide)
                have jτ71 := fτ71.2.2.1
                have pτ71 := fτ71.2.2.2
                unfold w_X16_records_71
                try simp only [forall_eq, rII, rIJ, rIP, rJJ, rJI, rJP, rPP, rPI, rPJ, g1, g2, g3, g4, g5, g6, g7, g8, Nat.reduceEqDiff, Nat.reduceAdd, false_and, and_false, true_and, and_true, reduceIte, nZ0, nZ1, eτ71_98.1, eτ71_98.2, eτ71_100.1, eτ71_100.2, eτ71_102.1, eτ71_102.2, sτ71_30.1, sτ71_30.2, sτ71_32.1, sτ71_32.2, sτ71_92.1, sτ71_92.2, fun a k => (jτ71 a k).1, fun a k => (jτ71 a k).2, pτ71]
                have q14 := rτ71.2.1 0; simp only [rgS] at q14
                split
                · rename_i hc75
                  skip
                  unfold w_X16_records_135
                  try simp only [forall_eq, rII, rIJ, rIP, rJJ, rJI, rJP, rPP, rPI, rPJ, g1, g2, g3, g4, g5, g6, g7, g8, Nat.reduceEqDiff, Nat.reduceAdd, false_and, and_false, true_and, and_true, reduceIte, nZ0, nZ1, eτ71_98.1, eτ71_98.2, eτ71_100.1, eτ71_100.2, eτ71_102.1, eτ71_102.2, sτ71_30.1, sτ71_30.2, sτ71_32.1, sτ71_32.2, sτ71_92.1, sτ71_92.2, fun a k => (jτ71 a k).1, fun a k => (jτ71 a k).2, pτ71]
                  refine hQ _ _ ?_ ?_ ?_
                  · exact rτ71
                  · exact fτ71
                  · exact trivial
                · rename_i hc75
                  skip
                  unfold w_X16_records_78
                  try simp only [forall_eq, rII, rIJ, rIP, rJJ, rJI, rJP, rPP, rPI, rPJ, g1, g2, g3, g4, g5, g6, g7, g8, Nat.reduceEqDiff, Nat.reduceAdd, false_and, and_false, true_and, and_true, reduceIte, nZ0, nZ1, eτ71_98.1, eτ71_98.2, eτ71_100.1, eτ71_100.2, eτ71_102.1, eτ71_102.2, sτ71_30.1, sτ71_30.2, sτ71_32.1, sτ71_32.2, sτ71_92.1, sτ71_92.2, fun a k => (jτ71 a k).1, fun a k => (jτ71 a k).2, pτ71]
                  have q15 := rσ.2.1 92; simp only [rgS] at q15
                  split
                  · rename_i hc82
                    skip
                    unfold w_X16_records_135
                    try simp only [forall_eq, rII, rIJ, rIP, rJJ, rJI, rJP, rPP, rPI, rPJ, g1, g2, g3, g4, g5, g6, g7, g8, Nat.reduceEqDiff, Nat.reduceAdd, false_and, and_false, true_and, and_true, reduceIte, nZ0, nZ1, eτ71_98.1, eτ71_98.2, eτ71_100.1, eτ71_100.2, eτ71_102.1, eτ71_102.2, sτ71_30.1, sτ71_30.2, sτ71_32.1, sτ71_32.2, sτ71_92.1, sτ71_92.2, fun a k => (jτ71 a k).1, fun a k => (jτ71 a k).2, pτ71]
                    refine hQ _ _ ?_ ?_ ?_
                    · exact rτ71
                    · exact fτ71
                    · exact trivial
                  · rename_i hc82
                    skip
                    unfold w_X16_records_85
                    try simp only [forall_eq, rII, rIJ, rIP, rJJ, rJI, rJP, rPP, rPI, rPJ, g1, g2, g3, g4, g5, g6, g7, g8, Nat.reduceEqDiff, Nat.reduceAdd, false_and, and_false, true_and, and_true, reduceIte, nZ0, nZ1, eτ71_98.1, eτ71_98.2, eτ71_100.1, eτ71_100.2, eτ71_102.1, eτ71_102.2, sτ71_30.1, sτ71_30.2, sτ71_32.1, sτ71_32.2, sτ71_92.1, sτ71_92.2, fun a k => (jτ71 a k).1, fun a k => (jτ71 a k).2, pτ71]
                    have q16 := rσ.1 98 0; simp only [rgT] at q16
                    split
                    · rename_i hc93
                      skip
                      unfold w_X16_records_135
                      try simp only [forall_eq, rII, rIJ, rIP, rJJ, rJI, rJP, rPP, rPI, rPJ, g1, g2, g3, g4, g5, g6, g7, g8, Nat.reduceEqDiff, Nat.reduceAdd, false_and, and_false, true_and, and_true, reduceIte, nZ0, nZ1, eτ71_98.1, eτ71_98.2, eτ71_100.1, eτ71_100.2, eτ71_102.1, eτ71_102.2, sτ71_30.1, sτ71_30.2, sτ71_32.1, sτ71_32.2, sτ71_92.1, sτ71_92.2, fun a k => (jτ71 a k).1, fun a k => (jτ71 a k).2, pτ71]
                      refine hQ _ _ ?_ ?_ ?_
                      · exact rτ71
                      · exact fτ71
                      · exact trivial
                    · rename_i hc93
                      skip
                      unfold w_X16_records_96
                      try simp only [forall_eq, rII, rIJ, rIP, rJJ, rJI, rJP, rPP, rPI, rPJ, g1, g2, g3, g4, g5, g6, g7, g8, Nat.reduceEqDiff, Nat.reduceAdd, false_and, and_false, true_and, and_true, reduceIte, nZ0, nZ1, eτ71_98.1, eτ71_98.2, eτ71_100.1, eτ71_100.2, eτ71_102.1, eτ71_102.2, sτ71_30.1, sτ71_30.2, sτ71_32.1, sτ71_32.2, sτ71_92.1, sτ71_92.2, fun a k => (jτ71 a k).1, fun a k => (jτ71 a k).2, pτ71]
                      refine ⟨by (first | omega | with_reducible assumption | (unfold rng; omega) | (unfold rng; (repeat' split) <;> omega) | grind), ?_⟩
                      have q17 := rσ.1 100 (v5.toNat); simp only [rgT] at q17
                      split
                      · rename_i hc106
                        skip
                        unfold w_X16_records_125
                        try simp only [forall_eq, rII, rIJ, rIP, rJJ, rJI, rJP, rPP, rPI, rPJ, g1, g2, g3, g4, g5, g6, g7, g8, Nat.reduceEqDiff, Nat.reduceAdd, false_and, and_false, true_and, and_true, reduceIte, nZ0, nZ1, eτ71_98.1, eτ71_98.2, eτ71_100.1, eτ71_100.2, eτ71_102.1, eτ71_102.2, sτ71_30.1, sτ71_30.2, sτ71_32.1, sτ71_32.2, sτ71_92.1, sτ71_92.2, fun a k => (jτ71 a k).1, fun a k => (jτ71 a k).2, pτ71]
                        unfold w_X16_records_126
                        try simp only [forall_eq, rII, rIJ, rIP, rJJ, rJI, rJP, rPP, rPI, rPJ, g1, g2, g3, g4, g5, g6, g7, g8, Nat.reduceEqDiff, Nat.reduceAdd, false_and, and_false, true_and, and_true, reduceIte, nZ0, nZ1, eτ71_98.1, eτ71_98.2, eτ71_100.1, eτ71_100.2, eτ71_102.1, eτ71_102.2, sτ71_30.1, sτ71_30.2, sτ71_32.1, sτ71_32.2, sτ71_92.1, sτ71_92.2, fun a k => (jτ71 a k).1, fun a k => (jτ71 a k).2, pτ71]
                        refine ⟨by (first | omega | with_reducible assumption | (unfold rng; omega) | (unfold rng; (repeat' split) <;> omega) | grind), ?_⟩
                        refine ⟨by (first | omega | with_reducible assumption | (unfold rng; omega) | (unfold rng; (repeat' split) <;> omega) | grind), ?_⟩
                        refine ih71 _ _ _ ?_ ?_ ?_ ?_
                        · exact rτ71
                        · exact fτ71
                        · (try simp only [rII, rIJ, rIP, rJJ, rJI, rJP, rPP, rPI, rPJ, g1, g2, g3, g4, g5, g6, g7, g8, Nat.reduceEqDiff, Nat.reduceAdd, false_and, and_false, true_and, and_true, reduceIte, nZ0, nZ1, eτ71_98.1, eτ71_98.2, eτ71_100.1, eτ71_100.2, eτ71_102.1, eτ71_102.2, sτ71_30.1, sτ71_30.2, sτ71_32.1, sτ71_32.2, sτ71_92.1, sτ71_92.2, fun a k => (jτ71 a k).1, fun a k => (jτ71 a k).2, pτ71]) <;> (first | omega | with_reducible assumption | (unfold rng; omega) | (unfold rng; (repeat' split) <;> omega) | grind)
                        · (try simp only [rII, rIJ, rIP, rJJ, rJI, rJP, rPP, rPI, rPJ, g1, g2, g3, g4, g5, g6, g7, g8, Nat.reduceEqDiff, Nat.reduceAdd, false_and, and_false, true_and, and_true, reduceIte, nZ0, nZ1, eτ71_98.1, eτ71_98.2, eτ71_100.1, eτ71_100.2, eτ71_102.1, eτ71_102.2, sτ71_30.1, sτ71_30.2, sτ71_32.1, sτ71_32.2, sτ71_92.1, sτ71_92.2, fun a k => (jτ71 a k).1, fun a k => (jτ71 a k).2, pτ71]) <;> (first | omega | with_reducible assumption | (unfold rng; omega) | (unfold rng; (repeat' split) <;> omega) | grind)
                      · rename_i hc106
                        skip
                        unfold w_X16_records_109
                        try simp only [forall_eq, rII, rIJ, rIP, rJJ, rJI, rJP, rPP, rPI, rPJ, g1, g2, g3, g4, g5, g6, g7, g8, Nat.reduceEqDiff, Nat.reduceAdd, false_and, and_false, true_and, and_true, reduceIte, nZ0, nZ1, eτ71_98.1, eτ71_98.2, eτ71_100.1, eτ71_100.2, eτ71_102.1, eτ71_102.2, sτ71_30.1, sτ71_30.2, sτ71_32.1, sτ71_32.2, sτ71_92.1, sτ71_92.2, fun a k => (jτ71 a k).1, fun a k => (jτ71 a k).2, pτ71]
                        refine ⟨by (first | omega | with_reducible assumption | (unfold rng; omega) | (unfold rng; (repeat' split) <;> omega) | grind), ?_⟩
                        split
                        · rename_i hc118
                          skip
                          unfold w_X16_records_125
                          try simp only [forall_eq, rII, rIJ, rIP, rJJ, rJI, rJP, rPP, rPI, rPJ, g1, g2, g3, g4, g5, g6, g7, g8, Nat.reduceEqDiff, Nat.reduceAdd, false_and, and_false, true_and, and_true, reduceIte, nZ0, nZ1, eτ71_98.1, eτ71_98.2, eτ71_100.1, eτ71_100.2, eτ71_102.1, eτ71_102.2, sτ71_30.1, sτ71_30.2, sτ71_32.1, sτ71_32.2, sτ71_92.1, sτ71_92.2, fun a k => (jτ71 a k).1, fun a k => (jτ71 a k).2, pτ71]
                          unfold w_X16_records_126
                          try simp only [forall_eq, rII, rIJ, rIP, rJJ, rJI, rJP, rPP, rPI, rPJ, g1, g2, g3, g4, g5, g6, g7, g8, Nat.reduceEqDiff, Nat.reduceAdd, false_and, and_false, true_and, and_true, reduceIte, nZ0, nZ1, eτ71_98.1, eτ71_98.2, eτ71_100.1, eτ71_100.2, eτ71_102.1, eτ71_102.2, sτ71_30.1, sτ71_30.2, sτ71_32.1, sτ71_32.2, sτ71_92.1, sτ71_92.2, fun a k => (jτ71 a k).1, fun a k => (jτ71 a k).2, pτ71]
                          refine ⟨by (first | omega | with_reducible assumption | (unfold rng; omega) | (unfold rng; (repeat' split) <;> omega) | grind), ?_⟩
                          refine ⟨by (first | omega | with_reducible assumption | (unfold rng; omega) | (unfold rng; (repeat' split) <;> omega) | grind), ?_⟩
                          refine ih71 _ _ _ ?_ ?_ ?_ ?_
                          · exact rτ71
                          · exact fτ71
                          · (try simp only [rII, rIJ, rIP, rJJ, rJI, rJP, rPP, rPI, rPJ, g1, g2, g3, g4, g5, g6, g7, g8, Nat.reduceEqDiff, Nat.reduceAdd, false_and, and_false, true_and, and_true, reduceIte, nZ0, nZ1, eτ71_98.1, eτ71_98.2, eτ71_100.1, eτ71_100.2, eτ71_102.1, eτ71_102.2, sτ71_30.1, sτ71_30.2, sτ71_32.1, sτ71_32.2, sτ71_92.1, sτ71_92.2, fun a k => (jτ71 a k).1, fun a k => (jτ71 a k).2, pτ71]) <;> (first | omega | with_reducible assumption | (unfold rng; omega) | (unfold rng; (repeat' split) <;> omega) | grind)
                          · (try simp only [rII, rIJ, rIP, rJJ, rJI, rJP, rPP, rPI, rPJ, g1, g2, g3, g4, g5, g6, g7, g8, Nat.reduceEqDiff, Nat.reduceAdd, false_and, and_false, true_and, and_true, reduceIte, nZ0, nZ1, eτ71_98.1, eτ71_98.2, eτ71_100.1, eτ71_100.2, eτ71_102.1, eτ71_102.2, sτ71_30.1, sτ71_30.2, sτ71_32.1, sτ71_32.2, sτ71_92.1, sτ71_92.2, fun a k => (jτ71 a k).1, fun a k => (jτ71 a k).2, pτ71]) <;> (first | omega | with_reducible assumption | (unfold rng; omega) | (unfold rng; (repeat' split) <;> omega) | grind)
                        · rename_i hc118
                          skip
                          unfold w_X16_records_121
                          try simp only [forall_eq, rII, rIJ, rIP, rJJ, rJI, rJP, rPP, rPI, rPJ, g1, g2, g3, g4, g5, g6, g7, g8, Nat.reduceEqDiff, Nat.reduceAdd, false_and, and_false, true_and, and_true, reduceIte, nZ0, nZ1, eτ71_98.1, eτ71_98.2, eτ71_100.1, eτ71_100.2, eτ71_102.1, eτ71_102.2, sτ71_30.1, sτ71_30.2, sτ71_32.1, sτ71_32.2, sτ71_92.1, sτ71_92.2, fun a k => (jτ71 a k).1, fun a k => (jτ71 a k).2, pτ71]
                          unfold w_X16_records_126
                          try simp only [forall_eq, rII, rIJ, rIP, rJJ, rJI, rJP, rPP, rPI, rPJ, g1, g2, g3, g4, g5, g6, g7, g8, Nat.reduceEqDiff, Nat.reduceAdd, false_and, and_false, true_and, and_true, reduceIte, nZ0, nZ1, eτ71_98.1, eτ71_98.2, eτ71_100.1, eτ71_100.2, eτ71_102.1, eτ71_102.2, sτ71_30.1, sτ71_30.2, sτ71_32.1, sτ71_32.2, sτ71_92.1, sτ71_92.2, fun a k => (jτ71 a k).1, fun a k => (jτ71 a k).2, pτ71]
                          refine ⟨by (first | omega | with_reducible assumption | (unfold rng; omega) | (unfold rng; (repeat' split) <;> omega) | grind), ?_⟩
                          refine ⟨by (first | omega | with_reducible assumption | (unfold rng; omega) | (unfold rng; (repeat' split) <;> omega) | grind), ?_⟩
                          refine ih71 _ _ _ ?_ ?_ ?_ ?_
                          · exact rτ71
                          · exact fτ71
                          · (try simp only [rII, rIJ, rIP, rJJ, rJI, rJP, rPP, rPI, rPJ, g1, g2, g3, g4, g5, g6, g7, g8, Nat.reduceEqDiff, Nat.reduceAdd, false_and, and_false, true_and, and_true, reduceIte, nZ0, nZ1, eτ71_98.1, eτ71_98.2, eτ71_100.1, eτ71_100.2, eτ71_102.1, eτ71_102.2, sτ71_30.1, sτ71_30.2, sτ71_32.1, sτ71_32.2, sτ71_92.1, sτ71_92.2, fun a k => (jτ71 a k).1, fun a k => (jτ71 a k).2, pτ71]) <;> (first | omega | with_reducible assumption | (unfold rng; omega) | (unfold rng; (repeat' split) <;> omega) | grind)
                          · (try simp only [rII, rIJ, rIP, rJJ, rJI, rJP, rPP, rPI, rPJ, g1, g2, g3, g4, g5, g6, g7, g8, Nat.reduceEqDiff, Nat.reduceAdd, false_and, and_false, true_and, and_true, reduceIte, nZ0, nZ1, eτ71_98.1, eτ71_98.2, eτ71_100.1, eτ71_100.2, eτ71_102.1, eτ71_102.2, sτ71_30.1, sτ71_30.2, sτ71_32.1, sτ71_32.2, sτ71_92.1, sτ71_92.2, fun a k => (jτ71 a k).1, fun a k => (jτ71 a k).2, pτ71]) <;> (first | omega | with_reducible assumption | (unfold rng; omega) | (unfold rng; (repeat' split) <;> omega) | grind)
            refine ⟨_, L71 _ _ _ _ ?_ ?_ ?_ (Nat.lt_succ_self _)⟩
            · refine Rg.sI g ?_ (by simp only [rgS]; first | with_reducible exact nZ_rng _ | with_reducible exact nB_rng _ | with_reducible exact wr_rng _ | with_reducible exact i32any _ | (first | omega | with_reducible assumption | (unfold rng; omega) | (unfold rng; (repeat' split) <;> omega) | grind)); exact rσ
            · refine Fr.sI g ?_ (by decide); exact fσ
            · (try simp only [rII, rIJ, rIP, rJJ, rJI, rJP, rPP, rPI, rPJ, g1, g2, g3, g4, g5, g6, g7, g8, Nat.reduceEqDiff, Nat.reduceAdd, false_and, and_false, true_and, and_true, reduceIte, nZ0, nZ1]) <;> (first | omega | with_reducible assumption | (unfold rng; omega) | (unfold rng; (repeat' split) <;> omega) | grind)
          · rename_i hc54
            skip
            unfold w_X16_records_57
            try simp only [forall_eq, rII, rIJ, rIP, rJJ, rJI, rJP, rPP, rPI, rPJ, g1, g2, g3, g4, g5, g6, g7, g8, Nat.reduceEqDiff, Nat.reduceAdd, false_and, and_false, true_and, and_true, reduceIte, nZ0, nZ1]
            unfold w_X16_records_62
            try simp only [forall_eq, rII, rIJ, rIP, rJJ, rJI, rJP, rPP, rPI, rPJ, g1, g2, g3, g4, g5, g6, g7, g8, Nat.reduceEqDiff, Nat.reduceAdd, false_and, and_false, true_and, and_true, reduceIte, nZ0, nZ1]
            have L71 : ∀ (fu71 : Nat) (τ71 : Sg) (v4 : Int) (v5 : Int), Rg ra jx rm τ71 → Fr ra jx rm [] [0] σ τ71 → (0 ≤ v5 ∧ v5 ≤ 4000 ∧ 0 ≤ v4 ∧ v4 ≤ v5) → ((4000 - v5).toNat) < fu71 → wl_X16_records_71 ra jx rm Q X fu71 τ71 v1 v2 v4 v5 := by
              intro fu71
              induction fu71 with
              | zero => intro τ71 _ _ _ _ _ h9; omega
              | succ fu71 ih71 =>
                intro τ71 v4 v5 rτ71 fτ71 hi71 hm71
                unfold wl_X16_records_71
                have eτ71_98 := fτ71.1 98 (by decide)
                have eτ71_100 := fτ71.1 100 (by decide)
                have eτ71_102 := fτ71.1 102 (by decide)
                have sτ71_30 := fτ71.2.1 30 (by decide)
                have sτ71_32 := fτ71.2.1 32 (by decide)
                have sτ71_92 := fτ71.2.1 92 (by decide)
                have jτ71 := fτ71.2.2.1
                have pτ71 := fτ71.2.2.2
                unfold w_X16_records_71
                try simp only [forall_eq, rII, rIJ, rIP, rJJ, rJI, rJP, rPP, rPI, rPJ, g1, g2, g3, g4, g5, g6, g7, g8, Nat.reduceEqDiff, Nat.reduceAdd, false_and, and_false, true_and, and_true, reduceIte, nZ0, nZ1, eτ71_98.1, eτ71_98.2, eτ71_100.1, eτ71_100.2, eτ71_102.1, eτ71_102.2, sτ71_30.1, sτ71_30.2, sτ71_32.1, sτ71_32.2, sτ71_92.1, sτ71_92.2, fun a k => (jτ71 a k).1, fun a k => (jτ71 a k).2, pτ71]
                have q18 := rτ71.2.1 0; simp only [rgS] at q18
                split
                · rename_i hc75
                  skip
                  unfold w_X16_records_135
                  try simp only [forall_eq, rII, rIJ, rIP, rJJ, rJI, rJP, rPP, rPI, rPJ, g1, g2, g3, g4, g5, g6, g7, g8, Nat.reduceEqDiff, Nat.reduceAdd, false_and, and_false, true_and, and_true, reduceIte, nZ0, nZ1, eτ71_98.1, eτ71_98.2, eτ71_100.1, eτ71_100.2, eτ71_102.1, eτ71_102.2, sτ71_30.1, sτ71_30.2, sτ71_32.1, sτ71_32.2, sτ71_92.1, sτ71_92.2, fun a k => (jτ71 a k).1, fun a k => (jτ71 a k).2, pτ71]
                  refine hQ _ _ ?_ ?_ ?_
                  · exact rτ71
                  · exact fτ71
                  · exact trivial
                · rename_i hc75
                  skip
                  unfold w_X16_records_78
                  try simp only [forall_eq, rII, rIJ, rIP, rJJ, rJI, rJP, rPP, rPI, rPJ, g1, g2, g3, g4, g5, g6, g7, g8, Nat.reduceEqDiff, Nat.reduceAdd, false_and, and_false, true_and, and_true, reduceIte, nZ0, nZ1, eτ71_98.1, eτ71_98.2, eτ71_100.1, eτ71_100.2, eτ71_102.1, eτ71_102.2, sτ71_30.1, sτ71_30.2, sτ71_32.1, sτ71_32.2, sτ71_92.1, sτ71_92.2, fun a k => (jτ71 a k).1, fun a k => (jτ71 a k).2, pτ71]
                  have q19 := rσ.2.1 92; simp only [rgS] at q19
                  split
                  · rename_i hc82
                    skip
                    unfold w_X16_records_135
                    try simp only [forall_eq, rII, rIJ, rIP, rJJ, rJI, rJP, rPP, rPI, rPJ, g1, g2, g3, g4, g5, g6, g7, g8, Nat.reduceEqDiff, Nat.reduceAdd, false_and, and_false, true_and, and_true, reduceIte, nZ0, nZ1, eτ71_98.1, eτ71_98.2, eτ71_100.1, eτ71_100.2, eτ71_102.1, eτ71_102.2, sτ71_30.1, sτ71_30.2, sτ71_32.1, sτ71_32.2, sτ71_92.1, sτ71_92.2, fun a k => (jτ71 a k).1, fun a k => (jτ71 a k).2, pτ71]
                    refine hQ _ _ ?_ ?_ ?_
                    · exact rτ71
                    · exact fτ71
                    · exact trivial
                  · rename_i hc82
                    skip
                    unfold w_X16_records_85
                    try simp only [forall_eq, rII, rIJ, rIP, rJJ, rJI, rJP, rPP, rPI, rPJ, g1, g2, g3, g4, g5, g6, g7, g8, Nat.reduceEqDiff, Nat.reduceAdd, false_and, and_false, true_and, and_true, reduceIte, nZ0, nZ1, eτ71_98.1, eτ71_98.2, eτ71_100.1, eτ71_100.2, eτ71_102.1, eτ71_102.2, sτ71_30.1, sτ71_30.2, sτ71_32.1, sτ71_32.2, sτ71_92.1, sτ71_92.2, fun a k => (jτ71 a k).1, fun a k => (jτ71 a k).2, pτ71]
                    have q20 := rσ.1 98 0; simp only [rgT] at q20
                    split
                    · rename_i hc93
                      skip
                      unfold w_X16_records_135
                      try simp only [forall_eq, rII, rIJ, rIP, rJJ, rJI, rJP, rPP, rPI, rPJ, g1, g2, g3, g4, g5, g6, g7, g8, Nat.reduceEqDiff, Nat.reduceAdd, false_and, and_false, true_and, and_true, reduceIte, nZ0, nZ1, eτ71_98.1, eτ71_98.2, eτ71_100.1, eτ71_100.2, eτ71_102.1, eτ71_102.2, sτ71_30.1, sτ71_30.2, sτ71_32.1, sτ71_32.2, sτ71_92.1, sτ71_92.2, fun a k => (jτ71 a k).1, fun a k => (jτ71 a k).2, pτ71]
                      refine hQ _ _ ?_ ?_ ?_
                      · exact rτ71
                      · exact fτ71
                      · exact trivial
                    · rename_i hc93
                      skip
                      unfold w_X16_records_96
                      try simp only [forall_eq, rII, rIJ, rIP, rJJ, rJI, rJP, rPP, rPI, rPJ, g1, g2, g3, g4, g5, g6, g7, g8, Nat.reduceEqDiff, Nat.reduceAdd, false_and, and_false, true_and, and_true, reduceIte, nZ0, nZ1, eτ71_98.1, eτ71_98.2, eτ71_100.1, eτ71_100.2, eτ71_102.1, eτ71_102.2, sτ71_30.1, sτ71_30.2, sτ71_32.1, sτ71_32.2, sτ71_92.1, sτ71_92.2, fun a k => (jτ71 a k).1, fun a k => (jτ71 a k).2, pτ71]
                      refine ⟨by (first | omega | with_reducible assumption | (unfold rng; omega) | (unfold rng; (repeat' split) <;> omega) | grind), ?_⟩
                      have q21 := rσ.1 100 (v5.toNat); simp only [rgT] at q21
                      split
                      · rename_i hc106
                        skip
                        unfold w_X16_records_125
                        try simp only [forall_eq, rII, rIJ, rIP, rJJ, rJI, rJP, rPP, rPI, rPJ, g1, g2, g3, g4, g5, g6, g7, g8, Nat.reduceEqDiff, Nat.reduceAdd, false_and, and_false, true_and, and_true, reduceIte, nZ0, nZ1, eτ71_98.1, eτ71_98.2, eτ71_100.1, eτ71_100.2, eτ71_102.1, eτ71_102.2, sτ71_30.1, sτ71_30.2, sτ71_32.1, sτ71_32.2, sτ71_92.1, sτ71_92.2, fun a k => (jτ71 a k).1, fun a k => (jτ71 a k).2, pτ71]
                        unfold w_X16_records_126
                        try simp only [forall_eq, rII, rIJ, rIP, rJJ, rJI, rJP, rPP, rPI, rPJ, g1, g2, g3, g4, g5, g6, g7, g8, Nat.reduceEqDiff, Nat.reduceAdd, false_and, and_false, true_and, and_true, reduceIte, nZ0, nZ1, eτ71_98.1, eτ71_98.2, eτ71_100.1, eτ71_100.2, eτ71_102.1, eτ71_102.2, sτ71_30.1, sτ71_30.2, sτ71_32.1, sτ71_32.2, sτ71_92.1, sτ71_92.2, fun a k => (jτ71 a k).1, fun a k => (jτ71 a k).2, pτ71]
                        refine ⟨by (first | omega | with_reducible assumption | (unfold rng; omega) | (unfold rng; (repeat' split) <;> omega) | grind), ?_⟩
                        refine ⟨by (first | omega | with_reducible assumption | (unfold rng; omega) | (unfold rng; (repeat' split) <;> omega) | grind), ?_⟩
                        refine ih71 _ _ _ ?_ ?_ ?_ ?_
                        · exact rτ71
                        · exact fτ71
                        · (try simp only [rII, rIJ, rIP, rJJ, rJI, rJP, rPP, rPI, rPJ, g1, g2, g3, g4, g5, g6, g7, g8, Nat.reduceEqDiff, Nat.reduceAdd, false_and, and_false, true_and, and_true, reduceIte, nZ0, nZ1, eτ71_98.1, eτ71_98.2, eτ71_100.1, eτ71_100.2, eτ71_102.1, eτ71_102.2, sτ71_30.1, sτ71_30.2, sτ71_32.1, sτ71_32.2, sτ71_92.1, sτ71_92.2, fun a k => (jτ71 a k).1, fun a k => (jτ71 a k).2, pτ71]) <;> (first | omega | with_reducible assumption | (unfold rng; omega) | (unfold rng; (repeat' split) <;> omega) | grind)
                        · (try simp only [rII, rIJ, rIP, rJJ, rJI, rJP, rPP, rPI, rPJ, g1, g2, g3, g4, g5, g6, g7, g8, Nat.reduceEqDiff, Nat.reduceAdd, false_and, and_false, true_and, and_true, reduceIte, nZ0, nZ1, eτ71_98.1, eτ71_98.2, eτ71_100.1, eτ71_100.2, eτ71_102.1, eτ71_102.2, sτ71_30.1, sτ71_30.2, sτ71_32.1, sτ71_32.2, sτ71_92.1, sτ71_92.2, fun a k => (jτ71 a k).1, fun a k => (jτ71 a k).2, pτ71]) <;> (first | omega | with_reducible assumption | (unfold rng; omega) | (unfold rng; (repeat' split) <;> omega) | grind)
                      · rename_i hc106
                        skip
                        unfold w_X16_records_109
                        try simp only [forall_eq, rII, rIJ, rIP, rJJ, rJI, rJP, rPP, rPI, rPJ, g1, g2, g3, g4, g5, g6, g7, g8, Nat.reduceEqDiff, Nat.reduceAdd, false_and, and_false, true_and, and_true, reduceIte, nZ0, nZ1, eτ71_98.1, eτ71_98.2, eτ71_100.1, eτ71_100.2, eτ71_102.1, eτ71_102.2, sτ71_30.1, sτ71_30.2, sτ71_32.1, sτ71_32.2, sτ71_92.1, sτ71_92.2, fun a k => (jτ71 a k).1, fun a k => (jτ71 a k).2, pτ71]
                        refine ⟨by (first | omega | with_reducible assumption | (unfold rng; omega) | (unfold rng; (repeat' split) <;> omega) | grind), ?_⟩
                        split
                        · rename_i hc118
                          skip
                          unfold w_X16_records_125
                          try simp only [forall_eq, rII, rIJ, rIP, rJJ, rJI, rJP, rPP, rPI, rPJ, g1, g2, g3, g4, g5, g6, g7, g8, Nat.reduceEqDiff, Nat.reduceAdd, false_and, and_false, true_and, and_true, reduceIte, nZ0, nZ1, eτ71_98.1, eτ71_98.2, eτ71_100.1, eτ71_100.2, eτ71_102.1, eτ71_102.2, sτ71_30.1, sτ71_30.2, sτ71_32.1, sτ71_32.2, sτ71_92.1, sτ71_92.2, fun a k => (jτ71 a k).1, fun a k => (jτ71 a k).2, pτ71]
                          unfold w_X16_records_126
                          try simp only [forall_eq, rII, rIJ, rIP, rJJ, rJI, rJP, rPP, rPI, rPJ, g1, g2, g3, g4, g5, g6, g7, g8, Nat.reduceEqDiff, Nat.reduceAdd, false_and, and_false, true_and, and_true, reduceIte, nZ0, nZ1, eτ71_98.1, eτ71_98.2, eτ71_100.1, eτ71_100.2, eτ71_102.1, eτ71_102.2, sτ71_30.1, sτ71_30.2, sτ71_32.1, sτ71_32.2, sτ71_92.1, sτ71_92.2, fun a k => (jτ71 a k).1, fun a k => (jτ71 a k).2, pτ71]
                          refine ⟨by (first | omega | with_reducible assumption | (unfold rng; omega) | (unfold rng; (repeat' split) <;> omega) | grind), ?_⟩
                          refine ⟨by (first | omega | with_reducible assumption | (unfold rng; omega) | (unfold rng; (repeat' split) <;> omega) | grind), ?_⟩
                          refine ih71 _ _ _ ?_ ?_ ?_ ?_
                          · exact rτ71
                          · exact fτ71
                          · (try simp only [rII, rIJ, rIP, rJJ, rJI, rJP, rPP, rPI, rPJ, g1, g2, g3, g4, g5, g6, g7, g8, Nat.reduceEqDiff, Nat.reduceAdd, false_and, and_false, true_and, and_true, reduceIte, nZ0, nZ1, eτ71_98.1, eτ71_98.2, eτ71_100.1, eτ71_100.2, eτ71_102.1, eτ71_102.2, sτ71_30.1, sτ71_30.2, sτ71_32.1, sτ71_32.2, sτ71_92.1, sτ71_92.2, fun a k => (jτ71 a k).1, fun a k => (jτ71 a k).2, pτ71]) <;> (first | omega | with_reducible assumption | (unfold rng; omega) | (unfold rng; (repeat' split) <;> omega) | grind)
                          · (try simp only [rII, rIJ, rIP, rJJ, rJI, rJP, rPP, rPI, rPJ, g1, g2, g3, g4, g5, g6, g7, g8, Nat.reduceEqDiff, Nat.reduceAdd, false_and, and_false, true_and, and_true, reduceIte, nZ0, nZ1, eτ71_98.1, eτ71_98.2, eτ71_100.1, eτ71_100.2, eτ71_102.1, eτ71_102.2, sτ71_30.1, sτ71_30.2, sτ71_32.1, sτ71_32.2, sτ71_92.1, sτ71_92.2, fun a k => (jτ71 a k).1, fun a k => (jτ71 a k).2, pτ71]) <;> (first | omega | with_reducible assumption | (unfold rng; omega) | (unfold rng; (repeat' split) <;> omega) | grind)
                        · rename_i hc118
                          skip
                          unfold w_X16_records_121
                          try simp only [forall_eq, rII, rIJ, rIP, rJJ, rJI, rJP, rPP, rPI, rPJ, g1, g2, g3, g4, g5, g6, g7, g8, Nat.reduceEqDiff, Nat.reduceAdd, false_and, and_false, true_and, and_true, reduceIte, nZ0, nZ1, eτ71_98.1, eτ71_98.2, eτ71_100.1, eτ71_100.2, eτ71_102.1, eτ71_102.2, sτ71_30.1, sτ71_30.2, sτ71_32.1, sτ71_32.2, sτ71_92.1, sτ71_92.2, fun a k => (jτ71 a k).1, fun a k => (jτ71 a k).2, pτ71]
                          unfold w_X16_records_126
                          try simp only [forall_eq, rII, rIJ, rIP, rJJ, rJI, rJP, rPP, rPI, rPJ, g1, g2, g3, g4, g5, g6, g7, g8, Nat.reduceEqDiff, Nat.reduceAdd, false_and, and_false, true_and, and_true, reduceIte, nZ0, nZ1, eτ71_98.1, eτ71_98.2, eτ71_100.1, eτ71_100.2, eτ71_102.1, eτ71_102.2, sτ71_30.1, sτ71_30.2, sτ71_32.1, sτ71_32.2, sτ71_92.1, sτ71_92.2, fun a k => (jτ71 a k).1, fun a k => (jτ71 a k).2, pτ71]
                          refine ⟨by (first | omega | with_reducible assumption | (unfold rng; omega) | (unfold rng; (repeat' split) <;> omega) | grind), ?_⟩
                          refine ⟨by (first | omega | with_reducible assumption | (unfold rng; omega) | (unfold rng; (repeat' split) <;> omega) | grind), ?_⟩
                          refine ih71 _ _ _ ?_ ?_ ?_ ?_
                          · exact rτ71
                          · exact fτ71
                          · (try simp only [rII, rIJ, rIP, rJJ, rJI, rJP, rPP, rPI, rPJ, g1, g2, g3, g4, g5, g6, g7, g8, Nat.reduceEqDiff, Nat.reduceAdd, false_and, and_false, true_and, and_true, reduceIte, nZ0, nZ1, eτ71_98.1, eτ71_98.2, eτ71_100.1, eτ71_100.2, eτ71_102.1, eτ71_102.2, sτ71_30.1, sτ71_30.2, sτ71_32.1, sτ71_32.2, sτ71_92.1, sτ71_92.2, fun a k => (jτ71 a k).1, fun a k => (jτ71 a k).2, pτ71]) <;> (first | omega | with_reducible assumption | (unfold rng; omega) | (unfold rng; (repeat' split) <;> omega) | grind)
                          · (try simp only [rII, rIJ, rIP, rJJ, rJI, rJP, rPP, rPI, rPJ, g1, g2, g3, g4, g5, g6, g7, g8, Nat.reduceEqDiff, Nat.reduceAdd, false_and, and_false, true_and, and_true, reduceIte, nZ0, nZ1, eτ71_98.1, eτ71_98.2, eτ71_100.1, eτ71_100.2, eτ71_102.1, eτ71_102.2, sτ71_30.1, sτ71_30.2, sτ71_32.1, sτ71_32.2, sτ71_92.1, sτ71_92.2, fun a k => (jτ71 a k).1, fun a k => (jτ71 a k).2, pτ71]) <;> (first | omega | with_reducible assumption | (unfold rng; omega) | (unfold rng; (repeat' split) <;> omega) | grind)
            refine ⟨_, L71 _ _ _ _ ?_ ?_ ?_ (Nat.lt_succ_self _)⟩
            · refine Rg.sI g ?_ (by simp only [rgS]; first | with_reducible exact nZ_rng _ | with_reducible exact nB_rng _ | with_reducible exact wr_rng _ | with_reducible exact i32any _ | (first | omega | with_reducible assumption | (unfold rng; omega) | (unfold rng; (repeat' split) <;> omega) | grind)); exact rσ
            · refine Fr.sI g ?_ (by decide); exact fσ
            · (try simp only [rII, rIJ, rIP, rJJ, rJI, rJP, rPP, rPI, rPJ, g1, g2, g3, g4, g5, g6, g7, g8, Nat.reduceEqDiff, Nat.reduceAdd, false_and, and_false, true_and, and_true, reduceIte, nZ0, nZ1]) <;> (first | omega | with_reducible assumption | (unfold rng; omega) | (unfold rng; (repeat' split) <;> omega) | grind)
        · rename_i hc42
          skip
          unfold w_X16_records_45
          try simp only [forall_eq, rII, rIJ, rIP, rJJ, rJI, rJP, rPP, rPI, rPJ, g1, g2, g3, g4, g5, g6, g7, g8, Nat.reduceEqDiff, Nat.reduceAdd, false_and, and_false, true_and, and_true, reduceIte, nZ0, nZ1]
          unfold w_X16_records_62
          try simp only [forall_eq, rII, rIJ, rIP, rJJ, rJI, rJP, rPP, rPI, rPJ, g1, g2, g3, g4, g5, g6, g7, g8, Nat.reduceEqDiff, Nat.reduceAdd, false_and, and_false, true_and, and_true, reduceIte, nZ0, nZ1]
          have L71 : ∀ (fu71 : Nat) (τ71 : Sg) (v4 : Int) (v5 : Int), Rg ra jx rm τ71 → Fr ra jx rm [] [0] σ τ71 → (0 ≤ v5 ∧ v5 ≤ 4000 ∧ 0 ≤ v4 ∧ v4 ≤ v5) → ((4000 - v5).toNat) < fu71 → wl_X16_records_71 ra jx rm Q X fu71 τ71 v1 v2 v4 v5 := by
            intro fu71
            induction fu71 with
            | zero => intro τ71 _ _ _ _ _ h9; omega
            | succ fu71 ih71 =>
              intro τ71 v4 v5 rτ71 fτ71 hi71 hm71
              unfold wl_X16_records_71
              have eτ71_98 := fτ71.1 98 (by decide)
              have eτ71_100 := fτ71.1 100 (by decide)
              have eτ71_102 := fτ71.1 102 (by decide)
              have sτ71_30 := fτ71.2.1 30 (by decide)
              have sτ71_32 := fτ71.2.1 32 (by decide)
              have sτ71_92 := fτ71.2.1 92 (by decide)
              have jτ71 := fτ71.2.2.1
              have pτ71 := fτ71.2.2.2
              unfold w_X16_records_71
              try simp only [forall_eq, rII, rIJ, rIP, rJJ, rJI, rJP, rPP, rPI, rPJ, g1, g2, g3, g4, g5, g6, g7, g8, Nat.reduceEqDiff, Nat.reduceAdd, false_and, and_false, true_and, and_true, reduceIte, nZ0, nZ1, eτ71_98.1, eτ71_98.2, eτ71_100.1, eτ71_100.2, eτ71_102.1, eτ71_102.2, sτ71_30.1, sτ71_30.2, sτ71_32.1, sτ71_32.2, sτ71_92.1, sτ71_92.2, fun a k => (jτ71 a k).1, fun a k => (jτ71 a k).2, pτ71]
              have q22 := rτ71.2.1 0; simp only [rgS] at q22
              split
              · rename_i hc75
                skip
                unfold w_X16_records_135
                try simp only [forall_eq, rII, rIJ, rIP, rJJ, rJI, rJP, rPP, rPI, rPJ, g1, g2, g3, g4, g5, g6, g7, g8, Nat.reduceEqDiff, Nat.reduceAdd, false_and, and_false, true_and, and_true, reduceIte, nZ0, nZ1, eτ71_98.1, eτ71_98.2, eτ71_100.1, eτ71_100.2, eτ71_102.1, eτ71_102.2, sτ71_30.1, sτ71_30.2, sτ71_32.1, sτ71_32.2, sτ71_92.1, sτ71_92.2, fun a k => (jτ71 a k).1, fun a k => (jτ71 a k).2, pτ71]
                refine hQ _ _ ?_ ?_ ?_
                · exact rτ71
                · exact fτ71
                · exact trivial
              · rename_i hc75
                skip
                unfold w_X16_records_78
                try simp only [forall_eq, rII, rIJ, rIP, rJJ, rJI, rJP, rPP, rPI, rPJ, g1, g2, g3, g4, g5, g6, g7, g8, Nat.reduceEqDiff, Nat.reduceAdd, false_and, and_false, true_and, and_true, reduceIte, nZ0, nZ1, eτ71_98.1, eτ71_98.2, eτ71_100.1, eτ71_100.2, eτ71_102.1, eτ71_102.2, sτ71_30.1, sτ71_30.2, sτ71_32.1, sτ71_32.2, sτ71_92.1, sτ71_92.2, fun a k => (jτ71 a k).1, fun a k => (jτ71 a k).2, pτ71]
                have q23 := rσ.2.1 92; simp only [rgS] at q23
                split
                · rename_i hc82
                  skip
                  unfold w_X16_records_135
                  try simp only [forall_eq, rII, rIJ, rIP, rJJ, rJI, rJP, rPP, rPI, rPJ, g1, g2, g3, g4, g5, g6, g7, g8, Nat.reduceEqDiff, Nat.reduceAdd, false_and, and_false, true_and, and_true, reduceIte, nZ0, nZ1, eτ71_98.1, eτ71_98.2, eτ71_100.1, eτ71_100.2, eτ71_102.1, eτ71_102.2, sτ71_30.1, sτ71_30.2, sτ71_32.1, sτ71_32.2, sτ71_92.1, sτ71_92.2, fun a k => (jτ71 a k).1, fun a k => (jτ71 a k).2, pτ71]
                  refine hQ _ _ ?_ ?_ ?_
                  · exact rτ71
                  · exact fτ71
                  · exact trivial
                · rename_i hc82
                  skip
                  unfold w_X16_records_85
                  try simp only [forall_eq, rII, rIJ, rIP, rJJ, rJI, rJP, rPP, rPI, rPJ, g1, g2, g3, g4, g5, g6, g7, g8, Nat.reduceEqDiff, Nat.reduceAdd, false_and, and_false, true_and, and_true, reduceIte, nZ0, nZ1, eτ71_98.1, eτ71_98.2, eτ71_100.1, eτ71_100.2, eτ71_102.1, eτ71_102.2, sτ71_30.1, sτ71_30.2, sτ71_32.1, sτ71_32.2, sτ71_92.1, sτ71_92.2, fun a k => (jτ71 a k).1, fun a k => (jτ71 a k).2, pτ71]
                  have q24 := rσ.1 98 0; simp only [rgT] at q24
                  split
                  · rename_i hc93
                    skip
                    unfold w_X16_records_135
                    try simp only [forall_eq, rII, rIJ, rIP, rJJ, rJI, rJP, rPP, rPI, rPJ, g1, g2, g3, g4, g5, g6, g7, g8, Nat.reduceEqDiff, Nat.reduceAdd, false_and, and_false, true_and, and_true, reduceIte, nZ0, nZ1, eτ71_98.1, eτ71_98.2, eτ71_100.1, eτ71_100.2, eτ71_102.1, eτ71_102.2, sτ71_30.1, sτ71_30.2, sτ71_32.1, sτ71_32.2, sτ71_92.1, sτ71_92.2, fun a k => (jτ71 a k).1, fun a k => (jτ71 a k).2, pτ71]
                    refine hQ _ _ ?_ ?_ ?_
                    · exact rτ71
                    · exact fτ71
                    · exact trivial
                  · rename_i hc93
                    skip
                    unfold w_X16_records_96
                    try simp only [forall_eq, rII, rIJ, rIP, rJJ, rJI, rJP, rPP, rPI, rPJ, g1, g2, g3, g4, g5, g6, g7, g8, Nat.reduceEqDiff, Nat.reduceAdd, false_and, and_false, true_and, and_true, reduceIte, nZ0, nZ1, eτ71_98.1, eτ71_98.2, eτ71_100.1, eτ71_100.2, eτ71_102.1, eτ71_102.2, sτ71_30.1, sτ71_30.2, sτ71_32.1, sτ71_32.2, sτ71_92.1, sτ71_92.2, fun a k => (jτ71 a k).1, fun a k => (jτ71 a k).2, pτ71]
                    refine ⟨by (first | omega | with_reducible assumption | (unfold rng; omega) | (unfold rng; (repeat' split) <;> omega) | grind), ?_⟩
                    have q25 := rσ.1 100 (v5.toNat); simp only [rgT] at q25
                    split
                    · rename_i hc106
                      skip
                      unfold w_X16_records_125
                      try simp only [forall_eq, rII, rIJ, rIP, rJJ, rJI, rJP, rPP, rPI, rPJ, g1, g2, g3, g4, g5, g6, g7, g8, Nat.reduceEqDiff, Nat.reduceAdd, false_and, and_false, true_and, and_true, reduceIte, nZ0, nZ1, eτ71_98.1, eτ71_98.2, eτ71_100.1, eτ71_100.2, eτ71_102.1, eτ71_102.2, sτ71_30.1, sτ71_30.2, sτ71_32.1, sτ71_32.2, sτ71_92.1, sτ71_92.2, fun a k => (jτ71 a k).1, fun a k => (jτ71 a k).2, pτ71]
                      unfold w_X16_records_126
                      try simp only [forall_eq, rII, rIJ, rIP, rJJ, rJI, rJP, rPP, rPI, rPJ, g1, g2, g3, g4, g5, g6, g7, g8, Nat.reduceEqDiff, Nat.reduceAdd, false_and, and_false, true_and, and_true, reduceIte, nZ0, nZ1, eτ71_98.1, eτ71_98.2, eτ71_100.1, eτ71_100.2, eτ71_102.1, eτ71_102.2, sτ71_30.1, sτ71_30.2, sτ71_32.1, sτ71_32.2, sτ71_92.1, sτ71_92.2, fun a k => (jτ71 a k).1, fun a k => (jτ71 a k).2, pτ71]
                      refine ⟨by (first | omega | with_reducible assumption | (unfold rng; omega) | (unfold rng; (repeat' split) <;> omega) | grind), ?_⟩
                      refine ⟨by (first | omega | with_reducible assumption | (unfold rng; omega) | (unfold rng; (repeat' split) <;> omega) | grind), ?_⟩
                      refine ih71 _ _ _ ?_ ?_ ?_ ?_
                      · exact rτ71
                      · exact fτ71
                      · (try simp only [rII, rIJ, rIP, rJJ, rJI, rJP, rPP, rPI, rPJ, g1, g2, g3, g4, g5, g6, g7, g8, Nat.reduceEqDiff, Nat.reduceAdd, false_and, and_false, true_and, and_true, reduceIte, nZ0, nZ1, eτ71_98.1, eτ71_98.2, eτ71_100.1, eτ71_100.2, eτ71_102.1, eτ71_102.2, sτ71_30.1, sτ71_30.2, sτ71_32.1, sτ71_32.2, sτ71_92.1, sτ71_92.2, fun a k => (jτ71 a k).1, fun a k => (jτ71 a k).2, pτ71]) <;> (first | omega | with_reducible assumption | (unfold rng; omega) | (unfold rng; (repeat' split) <;> omega) | grind)
                      · (try simp only [rII, rIJ, rIP, rJJ, rJI, rJP, rPP, rPI, rPJ, g1, g2, g3, g4, g5, g6, g7, g8, Nat.reduceEqDiff, Nat.reduceAdd, false_and, and_false, true_and, and_true, reduceIte, nZ0, nZ1, eτ71_98.1, eτ71_98.2, eτ71_100.1, eτ71_100.2, eτ71_102.1, eτ71_102.2, sτ71_30.1, sτ71_30.2, sτ71_32.1, sτ71_32.2, sτ71_92.1, sτ71_92.2, fun a k => (jτ71 a k).1, fun a k => (jτ71 a k).2, pτ71]) <;> (first | omega | with_reducible assumption | (unfold rng; omega) | (unfold rng; (repeat' split) <;> omega) | grind)
                    · rename_i hc106
                      skip
                      unfold w_X16_records_109
                      try simp only [forall_eq, rII, rIJ, rIP, rJJ, rJI, rJP, rPP, rPI, rPJ, g1, g2, g3, g4, g5, g6, g7, g8, Nat.reduceEqDiff, Nat.reduceAdd, false_and, and_false, true_and, and_true, reduceIte, nZ0, nZ1, eτ71_98.1, eτ71_98.2, eτ71_100.1, eτ71_100.2, eτ71_102.1, eτ71_102.2, sτ71_30.1, sτ71_30.2, sτ71_32.1, sτ71_32.2, sτ71_92.1, sτ71_92.2, fun a k => (jτ71 a k).1, fun a k => (jτ71 a k).2, pτ71]
                      refine ⟨by (first | omega | with_reducible assumption | (unfold rng; omega) | (unfold rng; (repeat' split) <;> omega) | grind), ?_⟩
                      split
                      · rename_i hc118
                        skip
                        unfold w_X16_records_125
                        try simp only [forall_eq, rII, rIJ, rIP, rJJ, rJI, rJP, rPP, rPI, rPJ, g1, g2, g3, g4, g5, g6, g7, g8, Nat.reduceEqDiff, Nat.reduceAdd, false_and, and_false, true_and, and_true, reduceIte, nZ0, nZ1, eτ71_98.1, eτ71_98.2, eτ71_100.1, eτ71_100.2, eτ71_102.1, eτ71_102.2, sτ71_30.1, sτ71_30.2, sτ71_32.1, sτ71_32.2, sτ71_92.1, sτ71_92.2, fun a k => (jτ71 a k).1, fun a k => (jτ71 a k).2, pτ71]
                        unfold w_X16_records_126
                        try simp only [forall_eq, rII, rIJ, rIP, rJJ, rJI, rJP, rPP, rPI, rPJ, g1, g2, g3, g4, g5, g6, g7, g8, Nat.reduceEqDiff, Nat.reduceAdd, false_and, and_false, true_and, and_true, reduceIte, nZ0, nZ1, eτ71_98.1, eτ71_98.2, eτ71_100.1, eτ71_100.2, eτ71_102.1, eτ71_102.2, sτ71_30.1, sτ71_30.2, sτ71_32.1, sτ71_32.2, sτ71_92.1, sτ71_92.2, fun a k => (jτ71 a k).1, fun a k => (jτ71 a k).2, pτ71]
                        refine ⟨by (first | omega | with_reducible assumption | (unfold rng; omega) | (unfold rng; (repeat' split) <;> omega) | grind), ?_⟩
                        refine ⟨by (first | omega | with_reducible assumption | (unfold rng; omega) | (unfold rng; (repeat' split) <;> omega) | grind), ?_⟩
                        refine ih71 _ _ _ ?_ ?_ ?_ ?_
                        · exact rτ71
                        · exact fτ71
                        · (try simp only [rII, rIJ, rIP, rJJ, rJI, rJP, rPP, rPI, rPJ, g1, g2, g3, g4, g5, g6, g7, g8, Nat.reduceEqDiff, Nat.reduceAdd, false_and, and_false, true_and, and_true, reduceIte, nZ0, nZ1, eτ71_98.1, eτ71_98.2, eτ71_100.1, eτ71_100.2, eτ71_102.1, eτ71_102.2, sτ71_30.1, sτ71_30.2, sτ71_32.1, sτ71_32.2, sτ71_92.1, sτ71_92.2, fun a k => (jτ71 a k).1, fun a k => (jτ71 a k).2, pτ71]) <;> (first | omega | with_reducible assumption | (unfold rng; omega) | (unfold rng; (repeat' split) <;> omega) | grind)
                        · (try simp only [rII, rIJ, rIP, rJJ, rJI, rJP, rPP, rPI, rPJ, g1, g2, g3, g4, g5, g6, g7, g8, Nat.reduceEqDiff, Nat.reduceAdd, false_and, and_false, true_and, and_true, reduceIte, nZ0, nZ1, eτ71_98.1, eτ71_98.2, eτ71_100.1, eτ71_100.2, eτ71_102.1, eτ71_102.2, sτ71_30.1, sτ71_30.2, sτ71_32.1, sτ71_32.2, sτ71_92.1, sτ71_92.2, fun a k => (jτ71 a k).1, fun a k => (jτ71 a k).2, pτ71]) <;> (first | omega | with_reducible assumption | (unfold rng; omega) | (unfold rng; (repeat' split) <;> omega) | grind)
                      · rename_i hc118
                        skip
                        unfold w_X16_records_121
                        try simp only [forall_eq, rII, rIJ, rIP, rJJ, rJI, rJP, rPP, rPI, rPJ, g1, g2, g3, g4, g5, g6, g7, g8, Nat.reduceEqDiff, Nat.reduceAdd, false_and, and_false, true_and, and_true, reduceIte, nZ0, nZ1, eτ71_98.1, eτ71_98.2, eτ71_100.1, eτ71_100.2, eτ71_102.1, eτ71_102.2, sτ71_30.1, sτ71_30.2, sτ71_32.1, sτ71_32.2, sτ71_92.1, sτ71_92.2, fun a k => (jτ71 a k).1, fun a k => (jτ71 a k).2, pτ71]
                        unfold w_X16_records_126
                        try simp only [forall_eq, rII, rIJ, rIP, rJJ, rJI, rJP, rPP, rPI, rPJ, g1, g2, g3, g4, g5, g6, g7, g8, Nat.reduceEqDiff, Nat.reduceAdd, false_and, and_false, true_and, and_true, reduceIte, nZ0, nZ1, eτ71_98.1, eτ71_98.2, eτ71_100.1, eτ71_100.2, eτ71_102.1, eτ71_102.2, sτ71_30.1, sτ71_30.2, sτ71_32.1, sτ71_32.2, sτ71_92.1, sτ71_92.2, fun a k => (jτ71 a k).1, fun a k => (jτ71 a k).2, pτ71]
                        refine ⟨by (first | omega | with_reducible assumption | (unfold rng; omega) | (unfold rng; (repeat' split) <;> omega) | grind), ?_⟩
                        refine ⟨by (first | omega | with_reducible assumption | (unfold rng; omega) | (unfold rng; (repeat' split) <;> omega) | grind), ?_⟩
                        refine ih71 _ _ _ ?_ ?_ ?_ ?_
                        · exact rτ71
                        · exact fτ71
                        · (try simp only [rII, rIJ, rIP, rJJ, rJI, rJP, rPP, rPI, rPJ, g1, g2, g3, g4, g5, g6, g7, g8, Nat.reduceEqDiff, Nat.reduceAdd, false_and, and_false, true_and, and_true, reduceIte, nZ0, nZ1, eτ71_98.1, eτ71_98.2, eτ71_100.1, eτ71_100.2, eτ71_102.1, eτ71_102.2, sτ71_30.1, sτ71_30.2, sτ71_32.1, sτ71_32.2, sτ71_92.1, sτ71_92.2, fun a k => (jτ71 a k).1, fun a k => (jτ71 a k).2, pτ71]) <;> (first | omega | with_reducible assumption | (unfold rng; omega) | (unfold rng; (repeat' split) <;> omega) | grind)
                        · (try simp only [rII, rIJ, rIP, rJJ, rJI, rJP, rPP, rPI, rPJ, g1, g2, g3, g4, g5, g6, g7, g8, Nat.reduceEqDiff, Nat.reduceAdd, false_and, and_false, true_and, and_true, reduceIte, nZ0, nZ1, eτ71_98.1, eτ71_98.2, eτ71_100.1, eτ71_100.2, eτ71_102.1, eτ71_102.2, sτ71_30.1, sτ71_30.2, sτ71_32.1, sτ71_32.2, sτ71_92.1, sτ71_92.2, fun a k => (jτ71 a k).1, fun a k => (jτ71 a k).2, pτ71]) <;> (first | omega | with_reducible assumption | (unfold rng; omega) | (unfold rng; (repeat' split) <;> omega) | grind)
          refine ⟨_, L71 _ _ _ _ ?_ ?_ ?_ (Nat.lt_succ_self _)⟩
          · refine Rg.sI g ?_ (by simp only [rgS]; first | with_reducible exact nZ_rng _ | with_reducible exact nB_rng _ | with_reducible exact wr_rng _ | with_reducible exact i32any _ | (first | omega | with_reducible assumption | (unfold rng; omega) | (unfold rng; (repeat' split) <;> omega) | grind)); exact rσ
          · refine Fr.sI g ?_ (by decide); exact fσ
          · (try simp only [rII, rIJ, rIP, rJJ, rJI, rJP, rPP, rPI, rPJ, g1, g2, g3, g4, g5, g6, g7, g8, Nat.reduceEqDiff, Nat.reduceAdd, false_and, and_false, true_and, and_true, reduceIte, nZ0, nZ1]) <;> (first | omega | with_reducible assumption | (unfold rng; omega) | (unfold rng; (repeat' split) <;> omega) | grind)
    · rename_i hc24
      skip
      unfold w_X16_records_27
      try simp only [forall_eq, rII, rIJ, rIP, rJJ, rJI, rJP, rPP, rPI, rPJ, g1, g2, g3, g4, g5, g6, g7, g8, Nat.reduceEqDiff, Nat.reduceAdd, false_and, and_false, true_and, and_true, reduceIte, nZ0, nZ1]
      unfold w_X16_records_62
      try simp only [forall_eq, rII, rIJ, rIP, rJJ, rJI, rJP, rPP, rPI, rPJ, g1, g2, g3, g4, g5, g6, g7, g8, Nat.reduceEqDiff, Nat.reduceAdd, false_and, and_false, true_and, and_true, reduceIte, nZ0, nZ1]
      have L71 : ∀ (fu71 : Nat) (τ71 : Sg) (v4 : Int) (v5 : Int), Rg ra jx rm τ71 → Fr ra jx rm [] [0] σ τ71 → (0 ≤ v5 ∧ v5 ≤ 4000 ∧ 0 ≤ v4 ∧ v4 ≤ v5) → ((4000 - v5).toNat) < fu71 → wl_X16_records_71 ra jx rm Q X fu71 τ71 v1 v2 v4 v5 := by
        intro fu71
        induction fu71 with
        | zero => intro τ71 _ _ _ _ _ h9; omega
        | succ fu71 ih71 =>
          intro τ71 v4 v5 rτ71 fτ71 hi71 hm71
          unfold wl_X16_records_71
          have eτ71_98 := fτ71.1 98 (by decide)
          have eτ71_100 := fτ71.1 100 (by decide)
          have eτ71_102 := fτ71.1 102 (by decide)
          have sτ71_30 := fτ71.2.1 30 (by decide)
          have sτ71_32 := fτ71.2.1 32 (by decide)
          have sτ71_92 := fτ71.2.1 92 (by decide)
          have jτ71 := fτ71.2.2.1
          have pτ71 := fτ71.2.2.2
          unfold w_X16_records_71
          try simp only [forall_eq, rII, rIJ, rIP, rJJ, rJI, rJP, rPP, rPI, rPJ, g1, g2, g3, g4, g5, g6, g7, g8, Nat.reduceEqDiff, Nat.reduceAdd, false_and, and_false, true_and, and_true, reduceIte, nZ0, nZ1, eτ71_98.1, eτ71_98.2, eτ71_100.1, eτ71_100.2, eτ71_102.1, eτ71_102.2, sτ71_30.1, sτ71_30.2, sτ71_32.1, sτ71_32.2, sτ71_92.1, sτ71_92.2, fun a k => (jτ71 a k).1, fun a k => (jτ71 a k).2, pτ71]
          have q26 := rτ71.2.1 0; simp only [rgS] at q26
          split
          · rename_i hc75
            skip
            unfold w_X16_records_135
            try simp only [forall_eq, rII, rIJ, rIP, rJJ, rJI, rJP, rPP, rPI, rPJ, g1, g2, g3, g4, g5, g6, g7, g8, Nat.reduceEqDiff, Nat.reduceAdd, false_and, and_false, true_and, and_true, reduceIte, nZ0, nZ1, eτ71_98.1, eτ71_98.2, eτ71_100.1, eτ71_100.2, eτ71_102.1, eτ71_102.2, sτ71_30.1, sτ71_30.2, sτ71_32.1, sτ71_32.2, sτ71_92.1, sτ71_92.2, fun a k => (jτ71 a k).1, fun a k => (jτ71 a k).2, pτ71]
            refine hQ _ _ ?_ ?_ ?_
            · exact rτ71
            · exact fτ71
            · exact trivial
          · rename_i hc75
            skip
            unfold w_X16_records_78
            try simp only [forall_eq, rII, rIJ, rIP, rJJ, rJI, rJP, rPP, rPI, rPJ, g1, g2, g3, g4, g5, g6, g7, g8, Nat.reduceEqDiff, Nat.reduceAdd, false_and, and_false, true_and, and_true, reduceIte, nZ0, nZ1, eτ71_98.1, eτ71_98.2, eτ71_100.1, eτ71_100.2, eτ71_102.1, eτ71_102.2, sτ71_30.1, sτ71_30.2, sτ71_32.1, sτ71_32.2, sτ71_92.1, sτ71_92.2, fun a k => (jτ71 a k).1, fun a k => (jτ71 a k).2, pτ71]
            have q27 := rσ.2.1 92; simp only [rgS] at q27
            split
            · rename_i hc82
              skip
              unfold w_X16_records_135
              try simp only [forall_eq, rII, rIJ, rIP, rJJ, rJI, rJP, rPP, rPI, rPJ, g1, g2, g3, g4, g5, g6, g7, g8, Nat.reduceEqDiff, Nat.reduceAdd, false_and, and_false, true_and, and_true, reduceIte, nZ0, nZ1, eτ71_98.1, eτ71_98.2, eτ71_100.1, eτ71_100.2, eτ71_102.1, eτ71_102.2, sτ71_30.1, sτ71_30.2, sτ71_32.1, sτ71_32.2, sτ71_92.1, sτ71_92.2, fun a k => (jτ71 a k).1, fun a k => (jτ71 a k).2, pτ71]
              refine hQ _ _ ?_ ?_ ?_
              · exact rτ71
              · exact fτ71
              · exact trivial
            · rename_i hc82
              skip
              unfold w_X16_records_85
              try simp only [forall_eq, rII, rIJ, rIP, rJJ, rJI, rJP, rPP, rPI, rPJ, g1, g2, g3, g4, g5, g6, g7, g8, Nat.reduceEqDiff, Nat.reduceAdd, false_and, and_false, true_and, and_true, reduceIte, nZ0, nZ1, eτ71_98.1, eτ71_98.2, eτ71_100.1, eτ71_100.2, eτ71_102.1, eτ71_102.2, sτ71_30.1, sτ71_30.2, sτ71_32.1, sτ71_32.2, sτ71_92.1, sτ71_92.2, fun a k => (jτ71 a k).1, fun a k => (jτ71 a k).2, pτ71]
              have q28 := rσ.1 98 0; simp only [rgT] at q28
              split
              · rename_i hc93
                skip
                unfold w_X16_records_135
                try simp only [forall_eq, rII, rIJ, rIP, rJJ, rJI, rJP, rPP, rPI, rPJ, g1, g2, g3, g4, g5, g6, g7, g8, Nat.reduceEqDiff, Nat.reduceAdd, false_and, and_false, true_and, and_true, reduceIte, nZ0, nZ1, eτ71_98.1, eτ71_98.2, eτ71_100.1, eτ71_100.2, eτ71_102.1, eτ71_102.2, sτ71_30.1, sτ71_30.2, sτ71_32.1, sτ71_32.2, sτ71_92.1, sτ71_92.2, fun a k => (jτ71 a k).1, fun a k => (jτ71 a k).2, pτ71]
                refine hQ _ _ ?_ ?_ ?_
                · exact rτ71
                · exact fτ71
                · exact trivial
              · rename_i hc93
                skip
                unfold w_X16_records_96
                try simp only [forall_eq, rII, rIJ, rIP, rJJ, rJI, rJP, rPP, rPI, rPJ, g1, g2, g3, g4, g5, g6, g7, g8, Nat.reduceEqDiff, Nat.reduceAdd, false_and, and_false, true_and, and_true, reduceIte, nZ0, nZ1, eτ71_98.1, eτ71_98.2, eτ71_100.1, eτ71_100.2, eτ71_102.1, eτ71_102.2, sτ71_30.1, sτ71_30.2, sτ71_32.1, sτ71_32.2, sτ71_92.1, sτ71_92.2, fun a k => (jτ71 a k).1, fun a k => (jτ71 a k).2, pτ71]
                refine ⟨by (first | omega | with_reducible assumption | (unfold rng; omega) | (unfold rng; (repeat' split) <;> omega) | grind), ?_⟩
                have q29 := rσ.1 100 (v5.toNat); simp only [rgT] at q29
                split
                · rename_i hc106
                  skip
                  unfold w_X16_records_125
                  try simp only [forall_eq, rII, rIJ, rIP, rJJ, rJI, rJP, rPP, rPI, rPJ, g1, g2, g3, g4, g5, g6, g7, g8, Nat.reduceEqDiff, Nat.reduceAdd, false_and, and_false, true_and, and_true, reduceIte, nZ0, nZ1, eτ71_98.1, eτ71_98.2, eτ71_100.1, eτ71_100.2, eτ71_102.1, eτ71_102.2, sτ71_30.1, sτ71_30.2, sτ71_32.1, sτ71_32.2, sτ71_92.1, sτ71_92.2, fun a k => (jτ71 a k).1, fun a k => (jτ71 a k).2, pτ71]
                  unfold w_X16_records_126
                  try simp only [forall_eq, rII, rIJ, rIP, rJJ, rJI, rJP, rPP, rPI, rPJ, g1, g2, g3, g4, g5, g6, g7, g8, Nat.reduceEqDiff, Nat.reduceAdd, false_and, and_false, true_and, and_true, reduceIte, nZ0, nZ1, eτ71_98.1, eτ71_98.2, eτ71_100.1, eτ71_100.2, eτ71_102.1, eτ71_102.2, sτ71_30.1, sτ71_30.2, sτ71_32.1, sτ71_32.2, sτ71_92.1, sτ71_92.2, fun a k => (jτ71 a k).1, fun a k => (jτ71 a k).2, pτ71]
                  refine ⟨by (first | omega | with_reducible assumption | (unfold rng; omega) | (unfold rng; (repeat' split) <;> omega) | grind), ?_⟩
                  refine ⟨by (first | omega | with_reducible assumption | (unfold rng; omega) | (unfold rng; (repeat' split) <;> omega) | grind), ?_⟩
                  refine ih71 _ _ _ ?_ ?_ ?_ ?_
                  · exact rτ71
                  · exact fτ71
                  · (try simp only [rII, rIJ, rIP, rJJ, rJI, rJP, rPP, rPI, rPJ, g1, g2, g3, g4, g5, g6, g7, g8, Nat.reduceEqDiff, Nat.reduceAdd, false_and, and_false, true_and, and_true, reduceIte, nZ0, nZ1, eτ71_98.1, eτ71_98.2, eτ71_100.1, eτ71_100.2, eτ71_102.1, eτ71_102.2, sτ71_30.1, sτ71_30.2, sτ71_32.1, sτ71_32.2, sτ71_92.1, sτ71_92.2, fun a k => (jτ71 a k).1, fun a k => (jτ71 a k).2, pτ71]) <;> (first | omega | with_reducible assumption | (unfold rng; omega) | (unfold rng; (repeat' split) <;> omega) | grind)
                  · (try simp only [rII, rIJ, rIP, rJJ, rJI, rJP, rPP, rPI, rPJ, g1, g2, g3, g4, g5, g6, g7, g8, Nat.reduceEqDiff, Nat.reduceAdd, false_and, and_false, true_and, and_true, reduceIte, nZ0, nZ1, eτ71_98.1, eτ71_98.2, eτ71_100.1, eτ71_100.2, eτ71_102.1, eτ71_102.2, sτ71_30.1, sτ71_30.2, sτ71_32.1, sτ71_32.2, sτ71_92.1, sτ71_92.2, fun a k => (jτ71 a k).1, fun a k => (jτ71 a k).2, pτ71]) <;> (first | omega | with_reducible assumption | (unfold rng; omega) | (unfold rng; (repeat' split) <;> omega) | grind)
                · rename_i hc106
                  skip
                  unfold w_X16_records_109
                  try simp only [forall_eq, rII, rIJ, rIP, rJJ, rJI, rJP, rPP, rPI, rPJ, g1, g2, g3, g4, g5, g6, g7, g8, Nat.reduceEqDiff, Nat.reduceAdd, false_and, and_false, true_and, and_true, reduceIte, nZ0, nZ1, eτ71_98.1, eτ71_98.2, eτ71_100.1, eτ71_100.2, eτ71_102.1, eτ71_102.2, sτ71_30.1, sτ71_30.2, sτ71_32.1, sτ71_32.2, sτ71_92.1, sτ71_92.2, fun a k => (jτ71 a k).1, fun a k => (jτ71 a k).2, pτ71]
                  refine ⟨by (first | omega | with_reducible assumption | (unfold rng; omega) | (unfold rng; (repeat' split) <;> omega) | grind), ?_⟩
                  split
                  · rename_i hc118
                    skip
                    unfold w_X16_records_125
                    try simp only [forall_eq, rII, rIJ, rIP, rJJ, rJI, rJP, rPP, rPI, rPJ, g1, g2, g3, g4, g5, g6, g7, g8, Nat.reduceEqDiff, Nat.reduceAdd, false_and, and_false, true_and, and_true, reduceIte, nZ0, nZ1, eτ71_98.1, eτ71_98.2, eτ71_100.1, eτ71_100.2, eτ71_102.1, eτ71_102.2, sτ71_30.1, sτ71_30.2, sτ71_32.1, sτ71_32.2, sτ71_92.1, sτ71_92.2, fun a k => (jτ71 a k).1, fun a k => (jτ71 a k).2, pτ71]
                    unfold w_X16_records_126
                    try simp only [forall_eq, rII, rIJ, rIP, rJJ, rJI, rJP, rPP, rPI, rPJ, g1, g2, g3, g4, g5, g6, g7, g8, Nat.reduceEqDiff, Nat.reduceAdd, false_and, and_false, true_and, and_true, reduceIte, nZ0, nZ1, eτ71_98.1, eτ71_98.2, eτ71_100.1, eτ71_100.2, eτ71_102.1, eτ71_102.2, sτ71_30.1, sτ71_30.2, sτ71_32.1, sτ71_32.2, sτ71_92.1, sτ71_92.2, fun a k => (jτ71 a k).1, fun a k => (jτ71 a k).2, pτ71]
                    refine ⟨by (first | omega | with_reducible assumption | (unfold rng; omega) | (unfold rng; (repeat' split) <;> omega) | grind), ?_⟩
                    refine ⟨by (first | omega | with_reducible assumption | (unfold rng; omega) | (unfold rng; (repeat' split) <;> omega) | grind), ?_⟩
                    refine ih71 _ _ _ ?_ ?_ ?_ ?_
                    · exact rτ71
                    · exact fτ71
                    · (try simp only [rII, rIJ, rIP, rJJ, rJI, rJP, rPP, rPI, rPJ, g1, g2, g3, g4, g5, g6, g7, g8, Nat.reduceEqDiff, Nat.reduceAdd, false_and, and_false, true_and, and_true, reduceIte, nZ0, nZ1, eτ71_98.1, eτ71_98.2, eτ71_100.1, eτ71_100.2, eτ71_102.1, eτ71_102.2, sτ71_30.1, sτ71_30.2, sτ71_32.1, sτ71_32.2, sτ71_92.1, sτ71_92.2, fun a k => (jτ71 a k).1, fun a k => (jτ71 a k).2, pτ71]) <;> (first | omega | with_reducible assumption | (unfold rng; omega) | (unfold rng; (repeat' split) <;> omega) | grind)
                    · (try simp only [rII, rIJ, rIP, rJJ, rJI, rJP, rPP, rPI, rPJ, g1, g2, g3, g4, g5, g6, g7, g8, Nat.reduceEqDiff, Nat.reduceAdd, false_and, and_false, true_and, and_true, reduceIte, nZ0, nZ1, eτ71_98.1, eτ71_98.2, eτ71_100.1, eτ71_100.2, eτ71_102.1, eτ71_102.2, sτ71_30.1, sτ71_30.2, sτ71_32.1, sτ71_32.2, sτ71_92.1, sτ71_92.2, fun a k => (jτ71 a k).1, fun a k => (jτ71 a k).2, pτ71]) <;> (first | omega | with_reducible assumption | (unfold rng; omega) | (unfold rng; (repeat' split) <;> omega) | grind)
                  · rename_i hc118
                    skip
                    unfold w_X16_records_121
                    try simp only [forall_eq, rII, rIJ, rIP, rJJ, rJI, rJP, rPP, rPI, rPJ, g1, g2, g3, g4, g5, g6, g7, g8, Nat.reduceEqDiff, Nat.reduceAdd, false_and, and_false, true_and, and_true, reduceIte, nZ0, nZ1, eτ71_98.1, eτ71_98.2, eτ71_100.1, eτ71_100.2, eτ71_102.1, eτ71_102.2, sτ71_30.1, sτ71_30.2, sτ71_32.1, sτ71_32.2, sτ71_92.1, sτ71_92.2, fun a k => (jτ71 a k).1, fun a k => (jτ71 a k).2, pτ71]
                    unfold w_X16_records_126
                    try simp only [forall_eq, rII, rIJ, rIP, rJJ, rJI, rJP, rPP, rPI, rPJ, g1, g2, g3, g4, g5, g6, g7, g8, Nat.reduceEqDiff, Nat.reduceAdd, false_and, and_false, true_and, and_true, reduceIte, nZ0, nZ1, eτ71_98.1, eτ71_98.2, eτ71_100.1, eτ71_100.2, eτ71_102.1, eτ71_102.2, sτ71_30.1, sτ71_30.2, sτ71_32.1, sτ71_32.2, sτ71_92.1, sτ71_92.2, fun a k => (jτ71 a k).1, fun a k => (jτ71 a k).2, pτ71]
                    refine ⟨by (first | omega | with_reducible assumption | (unfold rng; omega) | (unfold rng; (repeat' split) <;> omega) | grind), ?_⟩
                    refine ⟨by (first | omega | with_reducible assumption | (unfold rng; omega) | (unfold rng; (repeat' split) <;> omega) | grind), ?_⟩
                    refine ih71 _ _ _ ?_ ?_ ?_ ?_
                    · exact rτ71
                    · exact fτ71
                    · (try simp only [rII, rIJ, rIP, rJJ, rJI, rJP, rPP, rPI, rPJ, g1, g2, g3, g4, g5, g6, g7, g8, Nat.reduceEqDiff, Nat.reduceAdd, false_and, and_false, true_and, and_true, reduceIte, nZ0, nZ1, eτ71_98.1, eτ71_98.2, eτ71_100.1, eτ71_100.2, eτ71_102.1, eτ71_102.2, sτ71_30.1, sτ71_30.2, sτ71_32.1, sτ71_32.2, sτ71_92.1, sτ71_92.2, fun a k => (jτ71 a k).1, fun a k => (jτ71 a k).2, pτ71]) <;> (first | omega | with_reducible assumption | (unfold rng; omega) | (unfold rng; (repeat' split) <;> omega) | grind)
                    · (try simp only [rII, rIJ, rIP, rJJ, rJI, rJP, rPP, rPI, rPJ, g1, g2, g3, g4, g5, g6, g7, g8, Nat.reduceEqDiff, Nat.reduceAdd, false_and, and_false, true_and, and_true, reduceIte, nZ0, nZ1, eτ71_98.1, eτ71_98.2, eτ71_100.1, eτ71_100.2, eτ71_102.1, eτ71_102.2, sτ71_30.1, sτ71_30.2, sτ71_32.1, sτ71_32.2, sτ71_92.1, sτ71_92.2, fun a k => (jτ71 a k).1, fun a k => (jτ71 a k).2, pτ71]) <;> (first | omega | with_reducible assumption | (unfold rng; omega) | (unfold rng; (repeat' split) <;> omega) | grind)
      refine ⟨_, L71 _ _ _ _ ?_ ?_ ?_ (Nat.lt_succ_self _)⟩
      · refine Rg.sI g ?_ (by simp only [rgS]; first | with_reducible exact nZ_rng _ | with_reducible exact nB_rng _ | with_reducible exact wr_rng _ | with_reducible exact i32any _ | (first | omega | with_reducible assumption | (unfold rng; omega) | (unfold rng; (repeat' split) <;> omega) | grind)); exact rσ
      · refine Fr.sI g ?_ (by decide); exact fσ
      · (try simp only [rII, rIJ, rIP, rJJ, rJI, rJP, rPP, rPI, rPJ, g1, g2, g3, g4, g5, g6, g7, g8, Nat.reduceEqDiff, Nat.reduceAdd, false_and, and_false, true_and, and_true, reduceIte, nZ0, nZ1]) <;> (first | omega | with_reducible assumption | (unfold rng; omega) | (unfold rng; (repeat' split) <;> omega) | grind)
set_option maxHeartbeats 4000000 in
theorem s_X16_emitFold {ra : Nat → Nat} {jx : Nat → Nat → Nat} {rm : Nat} {ja : Nat} {own : Int → Int} {ps : Int → Int} (g : Geo ra jx rm) {σ : Sg} {v1 : Int} {v2 : Int} {v3 : Int} {v4 : Int64} (rσ : Rg ra jx rm σ) (hj : gP σ rm 17 = some ja) (hja : ja = ra 15 ∨ ja = ra 16) (hrec : RecI ra rm σ own ps) (hmt : MtI ra jx ja σ own) (hth : ThE ra rm σ) (h1 : 0 ≤ v1 ∧ v1 < 64) (h2 : 0 ≤ v2 ∧ v2 < 16) (ho : own v3 = v1) (h4 : v4.toInt ≤ 4611686018427387904) (hp : 1 ≤ gI σ rm 33) {Q : Sg → Unit → Prop} {X : Sg → String → Prop} (hQ : ∀ (σ' : Sg) (r : Unit), Rg ra jx rm σ' → Fr ra jx rm [46, 47, 48, 49, 60, 61, 62, 63, 64, 65, 75, 76, 77, 78, 82] [66, 67, 79, 80] σ σ' → ((RecI ra rm σ' (up own v3 64) (up (fun a => if own a = v1 ∧ ps v3 < ps a then ps a - 1 else ps a) v3 (4000 - gI σ rm 80)) ∧ gI σ' (ra 78) v1.toNat = gI σ (ra 78) v1.toNat - 1) ∧ MtI ra jx ja σ' (up own v3 64) ∧ ThE ra rm σ') → Q σ' r) (hX : ∀ (σ' : Sg) (E : String), Rg ra jx rm σ' → Fr ra jx rm [46, 47, 48, 49, 60, 61, 62, 63, 64, 65, 75, 76, 77, 78, 82] [66, 67, 79, 80] σ σ' → (E = "StreamHouseModel$Broken" ∧ ThE ra rm σ' ∧ RecE ra jx rm ja σ') → X σ' E) : wp_X16_emitFold ra jx rm v1 v2 v3 v4 σ Q X := by
  obtain ⟨g1, g2, g3, g4, g5, g6, g7, g8⟩ := id g
  have fσ : Fr ra jx rm [46, 47, 48, 49, 60, 61, 62, 63, 64, 65, 75, 76, 77, 78, 82] [66, 67, 79, 80] σ σ := Fr.rf
  have hn3 := hrec.nd ho h1
  unfold wp_X16_emitFold
  unfold w_X16_emitFold_0
  try simp only [forall_eq, rII, rIJ, rIP, rJJ, rJI, rJP, rPP, rPI, rPJ, g1, g2, g3, g4, g5, g6, g7, g8, Nat.reduceEqDiff, Nat.reduceAdd, false_and, and_false, true_and, and_true, reduceIte, nZ0, nZ1]
  have q1 := rσ.1 78 (v1.toNat); simp only [rgT] at q1
  have q2 := rσ.2.1 80; simp only [rgS] at q2
  have L3 : ∀ (fu3 : Nat) (τ3 : Sg) (v6 : Int), Rg ra jx rm τ3 → Fr ra jx rm [46, 47, 48, 49, 60, 61, 62, 63, 64, 65, 75, 76, 77, 78, 82] [66, 67, 79, 80] σ τ3 → (RecI ra rm τ3 own ps ∧ MtI ra jx ja τ3 own ∧ ThE ra rm τ3 ∧ gI τ3 (ra 78) v1.toNat = gI σ (ra 78) v1.toNat ∧ gI τ3 rm 80 = gI σ rm 80 ∧ 0 ≤ v6 ∧ v6 ≤ 8) → ((8 - v6).toNat) < fu3 → wl_X16_emitFold_3 ra jx rm Q X fu3 τ3 v1 v2 v3 v4 v6 := by
    intro fu3
    induction fu3 with
    | zero => intro τ3 _ _ _ _ h9; omega
    | succ fu3 ih3 =>
      intro τ3 v6 rτ3 fτ3 hi3 hm3
      unfold wl_X16_emitFold_3
      have eτ3_70 := fτ3.1 70 (by decide)
      have eτ3_73 := fτ3.1 73 (by decide)
      have eτ3_74 := fτ3.1 74 (by decide)
      have jτ3 := fτ3.2.2.1
      have pτ3 := fτ3.2.2.2
      unfold w_X16_emitFold_3
      try simp only [forall_eq, rII, rIJ, rIP, rJJ, rJI, rJP, rPP, rPI, rPJ, g1, g2, g3, g4, g5, g6, g7, g8, Nat.reduceEqDiff, Nat.reduceAdd, false_and, and_false, true_and, and_true, reduceIte, nZ0, nZ1, eτ3_70.1, eτ3_70.2, eτ3_73.1, eτ3_73.2, eτ3_74.1, eτ3_74.2, fun a k => (jτ3 a k).1, fun a k => (jτ3 a k).2, pτ3]
      obtain ⟨j1, j2, j3, j4, j5, j6, j7⟩ := hi3
      split
      · rename_i hc7
        skip
        unfold w_X16_emitFold_24
        try simp only [forall_eq, rII, rIJ, rIP, rJJ, rJI, rJP, rPP, rPI, rPJ, g1, g2, g3, g4, g5, g6, g7, g8, Nat.reduceEqDiff, Nat.reduceAdd, false_and, and_false, true_and, and_true, reduceIte, nZ0, nZ1, eτ3_70.1, eτ3_70.2, eτ3_73.1, eτ3_73.2, eτ3_74.1, eτ3_74.2, fun a k => (jτ3 a k).1, fun a k => (jτ3 a k).2, pτ3]
        refine ⟨by (first | omega | with_reducible assumption | (unfold rng; omega) | (unfold rng; (repeat' split) <;> omega) | grind), ?_⟩
        have q3 := rσ.2.2.1 ja 12 (v2.toNat); simp only [rgJ] at q3
        have L39 : ∀ (fu39 : Nat) (τ39 : Sg) (v6 : Int), Rg ra jx rm τ39 → Fr ra jx rm [46, 47, 48, 49, 60, 61, 62, 63, 64, 65, 75, 76, 77, 78, 82] [66, 67, 79, 80] σ τ39 → (RecI ra rm τ39 own ps ∧ MtI ra jx ja τ39 own ∧ ThE ra rm τ39 ∧ gI τ39 (ra 78) v1.toNat = gI σ (ra 78) v1.toNat ∧ gI τ39 rm 80 = gI σ rm 80 ∧ 0 ≤ v6 ∧ v6 ≤ (gI σ (jx ja 12) v2.toNat)) → (((gI σ (jx ja 12) v2.toNat) - v6).toNat) < fu39 → wl_X16_emitFold_39 ra jx rm Q X fu39 τ39 v1 v2 v3 v4 v6 := by
          intro fu39
          induction fu39 with
          | zero => intro τ39 _ _ _ _ h9; omega
          | succ fu39 ih39 =>
            intro τ39 v6 rτ39 fτ39 hi39 hm39
            unfold wl_X16_emitFold_39
            have eτ39_70 := fτ39.1 70 (by decide)
            have eτ39_73 := fτ39.1 73 (by decide)
            have eτ39_74 := fτ39.1 74 (by decide)
            have jτ39 := fτ39.2.2.1
            have pτ39 := fτ39.2.2.2
            unfold w_X16_emitFold_39
            try simp only [forall_eq, rII, rIJ, rIP, rJJ, rJI, rJP, rPP, rPI, rPJ, g1, g2, g3, g4, g5, g6, g7, g8, Nat.reduceEqDiff, Nat.reduceAdd, false_and, and_false, true_and, and_true, reduceIte, nZ0, nZ1, eτ39_70.1, eτ39_70.2, eτ39_73.1, eτ39_73.2, eτ39_74.1, eτ39_74.2, fun a k => (jτ39 a k).1, fun a k => (jτ39 a k).2, pτ39]
            obtain ⟨k1, k2, k3, k4, k5, k6, k7⟩ := hi39
            refine ⟨ja, by exact hj, hja, ?_⟩
            refine ⟨by (first | omega | with_reducible assumption | (unfold rng; omega) | (unfold rng; (repeat' split) <;> omega) | grind), ?_⟩
            split
            · rename_i hc50
              skip
              unfold w_X16_emitFold_80
              try simp only [forall_eq, rII, rIJ, rIP, rJJ, rJI, rJP, rPP, rPI, rPJ, g1, g2, g3, g4, g5, g6, g7, g8, Nat.reduceEqDiff, Nat.reduceAdd, false_and, and_false, true_and, and_true, reduceIte, nZ0, nZ1, eτ39_70.1, eτ39_70.2, eτ39_73.1, eτ39_73.2, eτ39_74.1, eτ39_74.2, fun a k => (jτ39 a k).1, fun a k => (jτ39 a k).2, pτ39]
              refine ⟨by (first | omega | with_reducible assumption | (unfold rng; omega) | (unfold rng; (repeat' split) <;> omega) | grind), ?_⟩
              refine s_X16_drop (own := own) (ps := ps) (T := v1) g rτ39 k1 h1 ho (fun σ15 _ rσ15 fc p4 => ?_)
              have fσ15 : Fr ra jx rm [46, 47, 48, 49, 60, 61, 62, 63, 64, 65, 75, 76, 77, 78, 82] [66, 67, 79, 80] σ σ15 := Fr.tr fτ39 (Fr.mor (fc) (by decide) (by decide))
              have pd := p4
              have md := MtI.less (r := v3) (MtI.fr k2 fc (by decide))
              have fd := fc
              have eσ15_70 := fσ15.1 70 (by decide)
              have eσ15_73 := fσ15.1 73 (by decide)
              have eσ15_74 := fσ15.1 74 (by decide)
              have jσ15 := fσ15.2.2.1
              have pσ15 := fσ15.2.2.2
              try simp only [forall_eq, rII, rIJ, rIP, rJJ, rJI, rJP, rPP, rPI, rPJ, g1, g2, g3, g4, g5, g6, g7, g8, Nat.reduceEqDiff, Nat.reduceAdd, false_and, and_false, true_and, and_true, reduceIte, nZ0, nZ1, eσ15_70.1, eσ15_70.2, eσ15_73.1, eσ15_73.2, eσ15_74.1, eσ15_74.2, fun a k => (jσ15 a k).1, fun a k => (jσ15 a k).2, pσ15]
              have q5 := rσ.1 74 (v3.toNat); simp only [rgT] at q5
              refine s_X16_emit (b4 := (ra 82)) (n4 := 16) g rσ15 (by first | exact hj | (rw [fσ15.2.2.2]; exact hj)) hja rfl (Or.inl ⟨82, rfl, by decide⟩) (ThE.fr (jx := jx) (K := [75, 76, 77, 78]) (S := [79, 80]) k3 (by assumption) (by decide) (by decide)) (by (try simp only [rII, rIJ, rIP, rJJ, rJI, rJP, rPP, rPI, rPJ, g1, g2, g3, g4, g5, g6, g7, g8, Nat.reduceEqDiff, Nat.reduceAdd, false_and, and_false, true_and, and_true, reduceIte, nZ0, nZ1, eσ15_70.1, eσ15_70.2, eσ15_73.1, eσ15_73.2, eσ15_74.1, eσ15_74.2, fun a k => (jσ15 a k).1, fun a k => (jσ15 a k).2, pσ15]) <;> (first | omega | with_reducible assumption | (unfold rng; omega) | (unfold rng; (repeat' split) <;> omega) | grind)) (by (try simp only [rII, rIJ, rIP, rJJ, rJI, rJP, rPP, rPI, rPJ, g1, g2, g3, g4, g5, g6, g7, g8, Nat.reduceEqDiff, Nat.reduceAdd, false_and, and_false, true_and, and_true, reduceIte, nZ0, nZ1, eσ15_70.1, eσ15_70.2, eσ15_73.1, eσ15_73.2, eσ15_74.1, eσ15_74.2, fun a k => (jσ15 a k).1, fun a k => (jσ15 a k).2, pσ15]) <;> (first | omega | with_reducible assumption | (unfold rng; omega) | (unfold rng; (repeat' split) <;> omega) | grind)) (by (try simp only [rII, rIJ, rIP, rJJ, rJI, rJP, rPP, rPI, rPJ, g1, g2, g3, g4, g5, g6, g7, g8, Nat.reduceEqDiff, Nat.reduceAdd, false_and, and_false, true_and, and_true, reduceIte, nZ0, nZ1, eσ15_70.1, eσ15_70.2, eσ15_73.1, eσ15_73.2, eσ15_74.1, eσ15_74.2, fun a k => (jσ15 a k).1, fun a k => (jσ15 a k).2, pσ15]) <;> (first | omega | with_reducible assumption | (unfold rng; omega) | (unfold rng; (repeat' split) <;> omega) | grind)) (by (try simp only [rII, rIJ, rIP, rJJ, rJI, rJP, rPP, rPI, rPJ, g1, g2, g3, g4, g5, g6, g7, g8, Nat.reduceEqDiff, Nat.reduceAdd, false_and, and_false, true_and, and_true, reduceIte, nZ0, nZ1, eσ15_70.1, eσ15_70.2, eσ15_73.1, eσ15_73.2, eσ15_74.1, eσ15_74.2, fun a k => (jσ15 a k).1, fun a k => (jσ15 a k).2, pσ15]) <;> (first | omega | with_reducible assumption | (unfold rng; omega) | (unfold rng; (repeat' split) <;> omega) | grind)) (by (try simp only [rII, rIJ, rIP, rJJ, rJI, rJP, rPP, rPI, rPJ, g1, g2, g3, g4, g5, g6, g7, g8, Nat.reduceEqDiff, Nat.reduceAdd, false_and, and_false, true_and, and_true, reduceIte, nZ0, nZ1, eσ15_70.1, eσ15_70.2, eσ15_73.1, eσ15_73.2, eσ15_74.1, eσ15_74.2, fun a k => (jσ15 a k).1, fun a k => (jσ15 a k).2, pσ15]) <;> (first | omega | with_reducible assumption | (unfold rng; omega) | (unfold rng; (repeat' split) <;> omega) | grind)) (by (try simp only [rII, rIJ, rIP, rJJ, rJI, rJP, rPP, rPI, rPJ, g1, g2, g3, g4, g5, g6, g7, g8, Nat.reduceEqDiff, Nat.reduceAdd, false_and, and_false, true_and, and_true, reduceIte, nZ0, nZ1, eσ15_70.1, eσ15_70.2, eσ15_73.1, eσ15_73.2, eσ15_74.1, eσ15_74.2, fun a k => (jσ15 a k).1, fun a k => (jσ15 a k).2, pσ15]) <;> first | exact hp | (rw [(fσ15.2.1 33 (by decide)).1]; exact hp)) (fun σ16 _ rσ16 fc p6 => ?_) (fun σx E rx fx px => hX _ _ rx (Fr.tr fσ15 (Fr.mor (fx) (by decide) (by decide))) ⟨px.1, px.2, _, _, RecI.fr pd.1 fx (by decide) (by decide), MtI.fr md fx (by decide)⟩)
              have fσ16 : Fr ra jx rm [46, 47, 48, 49, 60, 61, 62, 63, 64, 65, 75, 76, 77, 78, 82] [66, 67, 79, 80] σ σ16 := Fr.tr fσ15 (Fr.mor (fc) (by decide) (by decide))
              have pe := p6
              have fe := fc
              have eσ16_70 := fσ16.1 70 (by decide)
              have eσ16_73 := fσ16.1 73 (by decide)
              have eσ16_74 := fσ16.1 74 (by decide)
              have jσ16 := fσ16.2.2.1
              have pσ16 := fσ16.2.2.2
              try simp only [forall_eq, rII, rIJ, rIP, rJJ, rJI, rJP, rPP, rPI, rPJ, g1, g2, g3, g4, g5, g6, g7, g8, Nat.reduceEqDiff, Nat.reduceAdd, false_and, and_false, true_and, and_true, reduceIte, nZ0, nZ1, eσ16_70.1, eσ16_70.2, eσ16_73.1, eσ16_73.2, eσ16_74.1, eσ16_74.2, fun a k => (jσ16 a k).1, fun a k => (jσ16 a k).2, pσ16]
              refine hQ _ _ ?_ ?_ ?_
              · exact rσ16
              · exact fσ16
              · exact ⟨⟨by rw [k5] at pd; exact RecI.fr pd.1 fe (by decide) (by decide), by rw [(fe.1 78 (by decide)).1, pd.2, k4]⟩, MtI.fr md fe (by decide), pe⟩
            · rename_i hc50
              skip
              unfold w_X16_emitFold_53
              try simp only [forall_eq, rII, rIJ, rIP, rJJ, rJI, rJP, rPP, rPI, rPJ, g1, g2, g3, g4, g5, g6, g7, g8, Nat.reduceEqDiff, Nat.reduceAdd, false_and, and_false, true_and, and_true, reduceIte, nZ0, nZ1, eτ39_70.1, eτ39_70.2, eτ39_73.1, eτ39_73.2, eτ39_74.1, eτ39_74.2, fun a k => (jτ39 a k).1, fun a k => (jτ39 a k).2, pτ39]
              refine ⟨by (first | omega | with_reducible assumption | (unfold rng; omega) | (unfold rng; (repeat' split) <;> omega) | grind), ?_⟩
              refine ⟨by (first | omega | with_reducible assumption | (unfold rng; omega) | (unfold rng; (repeat' split) <;> omega) | grind), ?_⟩
              refine ⟨by (first | omega | with_reducible assumption | (unfold rng; omega) | (unfold rng; (repeat' split) <;> omega) | grind), ?_⟩
              refine ⟨by (first | omega | with_reducible assumption | (unfold rng; omega) | (unfold rng; (repeat' split) <;> omega) | grind), ?_⟩
              refine ⟨by (first | omega | with_reducible assumption | (unfold rng; omega) | (unfold rng; (repeat' split) <;> omega) | grind), ?_⟩
              refine ⟨by (first | omega | with_reducible assumption | (unfold rng; omega) | (unfold rng; (repeat' split) <;> omega) | grind), ?_⟩
              refine ih39 _ _ ?_ ?_ ?_ ?_
              · refine Rg.aJ g ?_ (by simp only [rlT]; first | with_reducible assumption | omega | exact Int64.toInt_le _ | (rw [Int64.toInt_ofInt_of_le (by omega) (by omega)]; omega) | grind); exact rτ39
              · refine Fr.aJ g ?_ (by decide); exact fτ39
              · refine ⟨?_, ?_, ?_, ?_, ?_, ?_, ?_⟩ <;> (first | with_reducible assumption | omega | exact RecI.fr (jx := jx) (K := [82]) (S := []) (by assumption) (by repeat (first | exact Fr.rf | assumption | refine Fr.aJ g ?_ (by decide) | refine Fr.aI g ?_ (by decide) | refine Fr.sI g ?_ (by decide) | refine Fr.sJ g ?_ (by decide))) (by decide) (by decide) | exact MtI.fr (rm := rm) (K := [82]) (S := []) (by assumption) (by repeat (first | exact Fr.rf | assumption | refine Fr.aJ g ?_ (by decide) | refine Fr.aI g ?_ (by decide) | refine Fr.sI g ?_ (by decide) | refine Fr.sJ g ?_ (by decide))) (by decide) | exact ThE.fr (jx := jx) (K := [82]) (S := []) (by assumption) (by repeat (first | exact Fr.rf | assumption | refine Fr.aJ g ?_ (by decide) | refine Fr.aI g ?_ (by decide) | refine Fr.sI g ?_ (by decide) | refine Fr.sJ g ?_ (by decide))) (by decide) (by decide) | exact HeE.fr (jx := jx) (K := [82]) (S := []) (by assumption) (by repeat (first | exact Fr.rf | assumption | refine Fr.aJ g ?_ (by decide) | refine Fr.aI g ?_ (by decide) | refine Fr.sI g ?_ (by decide) | refine Fr.sJ g ?_ (by decide))) (by decide) (by decide) | ((try simp only [rII, rIJ, rIP, rJJ, rJI, rJP, rPP, rPI, rPJ, g1, g2, g3, g4, g5, g6, g7, g8, Nat.reduceEqDiff, Nat.reduceAdd, false_and, and_false, true_and, and_true, reduceIte, nZ0, nZ1, eτ39_70.1, eτ39_70.2, eτ39_73.1, eτ39_73.2, eτ39_74.1, eτ39_74.2, fun a k => (jτ39 a k).1, fun a k => (jτ39 a k).2, pτ39]) <;> first | omega | assumption | grind))
              · (try simp only [rII, rIJ, rIP, rJJ, rJI, rJP, rPP, rPI, rPJ, g1, g2, g3, g4, g5, g6, g7, g8, Nat.reduceEqDiff, Nat.reduceAdd, false_and, and_false, true_and, and_true, reduceIte, nZ0, nZ1, eτ39_70.1, eτ39_70.2, eτ39_73.1, eτ39_73.2, eτ39_74.1, eτ39_74.2, fun a k => (jτ39 a k).1, fun a k => (jτ39 a k).2, pτ39]) <;> (first | omega | with_reducible assumption | (unfold rng; omega) | (unfold rng; (repeat' split) <;> omega) | grind)
        refine ⟨_, L39 _ _ _ ?_ ?_ ?_ (Nat.lt_succ_self _)⟩
        · refine Rg.aJ g ?_ (by simp only [rlT]; first | with_reducible assumption | omega | exact Int64.toInt_le _ | (rw [Int64.toInt_ofInt_of_le (by omega) (by omega)]; omega) | grind); exact rτ3
        · refine Fr.aJ g ?_ (by decide); exact fτ3
        · refine ⟨?_, ?_, ?_, ?_, ?_, ?_, ?_⟩ <;> (first | with_reducible assumption | omega | exact RecI.fr (jx := jx) (K := [82]) (S := []) (by assumption) (by repeat (first | exact Fr.rf | assumption | refine Fr.aJ g ?_ (by decide) | refine Fr.aI g ?_ (by decide) | refine Fr.sI g ?_ (by decide) | refine Fr.sJ g ?_ (by decide))) (by decide) (by decide) | exact MtI.fr (rm := rm) (K := [82]) (S := []) (by assumption) (by repeat (first | exact Fr.rf | assumption | refine Fr.aJ g ?_ (by decide) | refine Fr.aI g ?_ (by decide) | refine Fr.sI g ?_ (by decide) | refine Fr.sJ g ?_ (by decide))) (by decide) | exact ThE.fr (jx := jx) (K := [82]) (S := []) (by assumption) (by repeat (first | exact Fr.rf | assumption | refine Fr.aJ g ?_ (by decide) | refine Fr.aI g ?_ (by decide) | refine Fr.sI g ?_ (by decide) | refine Fr.sJ g ?_ (by decide))) (by decide) (by decide) | exact HeE.fr (jx := jx) (K := [82]) (S := []) (by assumption) (by repeat (first | exact Fr.rf | assumption | refine Fr.aJ g ?_ (by decide) | refine Fr.aI g ?_ (by decide) | refine Fr.sI g ?_ (by decide) | refine Fr.sJ g ?_ (by decide))) (by decide) (by decide) | ((try simp only [rII, rIJ, rIP, rJJ, rJI, rJP, rPP, rPI, rPJ, g1, g2, g3, g4, g5, g6, g7, g8, Nat.reduceEqDiff, Nat.reduceAdd, false_and, and_false, true_and, and_true, reduceIte, nZ0, nZ1, eτ3_70.1, eτ3_70.2, eτ3_73.1, eτ3_73.2, eτ3_74.1, eτ3_74.2, fun a k => (jτ3 a k).1, fun a k => (jτ3 a k).2, pτ3]) <;> first | omega | assumption | grind))
      · rename_i hc7
        skip
        unfold w_X16_emitFold_10
        try simp only [forall_eq, rII, rIJ, rIP, rJJ, rJI, rJP, rPP, rPI, rPJ, g1, g2, g3, g4, g5, g6, g7, g8, Nat.reduceEqDiff, Nat.reduceAdd, false_and, and_false, true_and, and_true, reduceIte, nZ0, nZ1, eτ3_70.1, eτ3_70.2, eτ3_73.1, eτ3_73.2, eτ3_74.1, eτ3_74.2, fun a k => (jτ3 a k).1, fun a k => (jτ3 a k).2, pτ3]
        refine ⟨by (first | omega | with_reducible assumption | (unfold rng; omega) | (unfold rng; (repeat' split) <;> omega) | grind), ?_⟩
        refine ⟨by (first | omega | with_reducible assumption | (unfold rng; omega) | (unfold rng; (repeat' split) <;> omega) | grind), ?_⟩
        refine ih3 _ _ ?_ ?_ ?_ ?_
        · refine Rg.aJ g ?_ (by simp only [rlT]; first | with_reducible assumption | omega | exact Int64.toInt_le _ | (rw [Int64.toInt_ofInt_of_le (by omega) (by omega)]; omega) | grind); exact rτ3
        · refine Fr.aJ g ?_ (by decide); exact fτ3
        · refine ⟨?_, ?_, ?_, ?_, ?_, ?_, ?_⟩ <;> (first | with_reducible assumption | omega | exact RecI.fr (jx := jx) (K := [82]) (S := []) (by assumption) (by repeat (first | exact Fr.rf | assumption | refine Fr.aJ g ?_ (by decide) | refine Fr.aI g ?_ (by decide) | refine Fr.sI g ?_ (by decide) | refine Fr.sJ g ?_ (by decide))) (by decide) (by decide) | exact MtI.fr (rm := rm) (K := [82]) (S := []) (by assumption) (by repeat (first | exact Fr.rf | assumption | refine Fr.aJ g ?_ (by decide) | refine Fr.aI g ?_ (by decide) | refine Fr.sI g ?_ (by decide) | refine Fr.sJ g ?_ (by decide))) (by decide) | exact ThE.fr (jx := jx) (K := [82]) (S := []) (by assumption) (by repeat (first | exact Fr.rf | assumption | refine Fr.aJ g ?_ (by decide) | refine Fr.aI g ?_ (by decide) | refine Fr.sI g ?_ (by decide) | refine Fr.sJ g ?_ (by decide))) (by decide) (by decide) | exact HeE.fr (jx := jx) (K := [82]) (S := []) (by assumption) (by repeat (first | exact Fr.rf | assumption | refine Fr.aJ g ?_ (by decide) | refine Fr.aI g ?_ (by decide) | refine Fr.sI g ?_ (by decide) | refine Fr.sJ g ?_ (by decide))) (by decide) (by decide) | ((try simp only [rII, rIJ, rIP, rJJ, rJI, rJP, rPP, rPI, rPJ, g1, g2, g3, g4, g5, g6, g7, g8, Nat.reduceEqDiff, Nat.reduceAdd, false_and, and_false, true_and, and_true, reduceIte, nZ0, nZ1, eτ3_70.1, eτ3_70.2, eτ3_73.1, eτ3_73.2, eτ3_74.1, eτ3_74.2, fun a k => (jτ3 a k).1, fun a k => (jτ3 a k).2, pτ3]) <;> first | omega | assumption | grind))
        · (try simp only [rII, rIJ, rIP, rJJ, rJI, rJP, rPP, rPI, rPJ, g1, g2, g3, g4, g5, g6, g7, g8, Nat.reduceEqDiff, Nat.reduceAdd, false_and, and_false, true_and, and_true, reduceIte, nZ0, nZ1, eτ3_70.1, eτ3_70.2, eτ3_73.1, eτ3_73.2, eτ3_74.1, eτ3_74.2, fun a k => (jτ3 a k).1, fun a k => (jτ3 a k).2, pτ3]) <;> (first | omega | with_reducible assumption | (unfold rng; omega) | (unfold rng; (repeat' split) <;> omega) | grind)
  refine ⟨_, L3 _ _ _ ?_ ?_ ?_ (Nat.lt_succ_self _)⟩
  · exact rσ
  · exact fσ
  · refine ⟨?_, ?_, ?_, ?_, ?_, ?_, ?_⟩ <;> (first | with_reducible assumption | omega | exact RecI.fr (jx := jx) (K := [82]) (S := []) (by assumption) (by repeat (first | exact Fr.rf | assumption | refine Fr.aJ g ?_ (by decide) | refine Fr.aI g ?_ (by decide) | refine Fr.sI g ?_ (by decide) | refine Fr.sJ g ?_ (by decide))) (by decide) (by decide) | exact MtI.fr (rm := rm) (K := [82]) (S := []) (by assumption) (by repeat (first | exact Fr.rf | assumption | refine Fr.aJ g ?_ (by decide) | refine Fr.aI g ?_ (by decide) | refine Fr.sI g ?_ (by decide) | refine Fr.sJ g ?_ (by decide))) (by decide) | exact ThE.fr (jx := jx) (K := [82]) (S := []) (by assumption) (by repeat (first | exact Fr.rf | assumption | refine Fr.aJ g ?_ (by decide) | refine Fr.aI g ?_ (by decide) | refine Fr.sI g ?_ (by decide) | refine Fr.sJ g ?_ (by decide))) (by decide) (by decide) | exact HeE.fr (jx := jx) (K := [82]) (S := []) (by assumption) (by repeat (first | exact Fr.rf | assumption | refine Fr.aJ g ?_ (by decide) | refine Fr.aI g ?_ (by decide) | refine Fr.sI g ?_ (by decide) | refine Fr.sJ g ?_ (by decide))) (by decide) (by decide) | ((try simp only [rII, rIJ, rIP, rJJ, rJI, rJP, rPP, rPI, rPJ, g1, g2, g3, g4, g5, g6, g7, g8, Nat.reduceEqDiff, Nat.reduceAdd, false_and, and_false, true_and, and_true, reduceIte, nZ0, nZ1]) <;> first | omega | assumption | grind))


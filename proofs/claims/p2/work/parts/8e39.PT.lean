set_option maxHeartbeats 4000000 in
theorem s2_X15_clear {ra : Nat → Nat} {jx : Nat → Nat → Nat} {rm : Nat} {jm : Nat} (g : Geo ra jx rm) {σ : Sg} (rσ : Rg ra jx rm σ) (hjm : jm = ra 15 ∨ jm = ra 16) {Q : Sg → Unit → Prop} {X : Sg → String → Prop} (hQ : ∀ (σ' : Sg) (r : Unit), Rg ra jx rm σ' → Fj ra jx rm [15, 16] [] [18] σ σ' → (Od ra jx jm σ σ' ∧ gI σ' jm 0 = 0 ∧ gI σ' jm 1 = 0 ∧ gI σ' jm 17 = 0) → Q σ' r) : wp_X15_clear ra jx rm jm σ Q X := by
  obtain ⟨g1, g2, g3, g4, g5, g6, g7, g8⟩ := id g
  have fσ : Fj ra jx rm [15, 16] [] [18] σ σ := Fj.rf
  have hjx : ∀ a k, ¬ jm = jx a k := fun a k => by rcases hjm with q | q <;> rw [q] <;> exact g5 a k _
  unfold wp_X15_clear
  unfold w_X15_clear_0
  try simp only [forall_eq, rII, rIJ, rIP, rJJ, rJI, rJP, rPP, rPI, rPJ, g1, g2, g3, g4, g5, g6, g7, g8, Nat.reduceEqDiff, Nat.reduceAdd, false_and, and_false, true_and, and_true, reduceIte, nZ0, nZ1, hjx]
  have L17 : ∀ (fu17 : Nat) (τ17 : Sg) (v1 : Int), Rg ra jx rm τ17 → Fj ra jx rm [15, 16] [] [18] σ τ17 → (0 ≤ v1 ∧ v1 ≤ 4 ∧ Od ra jx jm σ τ17 ∧ gI τ17 jm 0 = 0 ∧ gI τ17 jm 1 = 0 ∧ gI τ17 jm 17 = 0) → ((4 - v1).toNat) < fu17 → wl_X15_clear_17 ra jx rm jm Q X fu17 τ17 v1 := by
    intro fu17
    induction fu17 with
    | zero => intro τ17 _ _ _ _ h9; omega
    | succ fu17 ih17 =>
      intro τ17 v1 rτ17 fτ17 hi17 hm17
      unfold wl_X15_clear_17
      unfold w_X15_clear_17
      try simp only [forall_eq, rII, rIJ, rIP, rJJ, rJI, rJP, rPP, rPI, rPJ, g1, g2, g3, g4, g5, g6, g7, g8, Nat.reduceEqDiff, Nat.reduceAdd, false_and, and_false, true_and, and_true, reduceIte, nZ0, nZ1, hjx]
      obtain ⟨k1, k2, k3, k4, k5, k6⟩ := hi17
      split
      · rename_i hc19
        skip
        unfold w_X15_clear_35
        try simp only [forall_eq, rII, rIJ, rIP, rJJ, rJI, rJP, rPP, rPI, rPJ, g1, g2, g3, g4, g5, g6, g7, g8, Nat.reduceEqDiff, Nat.reduceAdd, false_and, and_false, true_and, and_true, reduceIte, nZ0, nZ1, hjx]
        refine hQ _ _ ?_ ?_ ?_
        · exact rτ17
        · exact fτ17
        · exact ⟨k3, k4, k5, k6⟩
      · rename_i hc19
        skip
        unfold w_X15_clear_22
        try simp only [forall_eq, rII, rIJ, rIP, rJJ, rJI, rJP, rPP, rPI, rPJ, g1, g2, g3, g4, g5, g6, g7, g8, Nat.reduceEqDiff, Nat.reduceAdd, false_and, and_false, true_and, and_true, reduceIte, nZ0, nZ1, hjx]
        refine ⟨by (first | omega | with_reducible assumption | (unfold rng; omega) | (unfold rng; (repeat' split) <;> omega) | decide), ?_⟩
        refine ⟨by (first | omega | with_reducible assumption | (unfold rng; omega) | (unfold rng; (repeat' split) <;> omega) | decide), ?_⟩
        refine ih17 _ _ ?_ ?_ ?_ ?_
        · refine Rg.jI g ?_ (by simp only [rgJ]; first | with_reducible exact nZ_rng _ | with_reducible exact nB_rng _ | with_reducible exact wr_rng _ | with_reducible exact i32any _ | (first | omega | with_reducible assumption | (unfold rng; omega) | (unfold rng; (repeat' split) <;> omega) | decide)); exact rτ17
        · refine Fj.jI g ?_ (by decide); exact fτ17
        · first | exact ⟨by omega, by omega, Od.j g k3, by (try simp only [rII, rIJ, rIP, rJJ, rJI, rJP, rPP, rPI, rPJ, g1, g2, g3, g4, g5, g6, g7, g8, Nat.reduceEqDiff, Nat.reduceAdd, false_and, and_false, true_and, and_true, reduceIte, nZ0, nZ1, hjx]) <;> exact k4, by (try simp only [rII, rIJ, rIP, rJJ, rJI, rJP, rPP, rPI, rPJ, g1, g2, g3, g4, g5, g6, g7, g8, Nat.reduceEqDiff, Nat.reduceAdd, false_and, and_false, true_and, and_true, reduceIte, nZ0, nZ1, hjx]) <;> exact k5, by (try simp only [rII, rIJ, rIP, rJJ, rJI, rJP, rPP, rPI, rPJ, g1, g2, g3, g4, g5, g6, g7, g8, Nat.reduceEqDiff, Nat.reduceAdd, false_and, and_false, true_and, and_true, reduceIte, nZ0, nZ1, hjx]) <;> exact k6⟩ | exact ⟨by omega, by omega, Od.o g (Od.o g (Od.o g Od.rf hjm) hjm) hjm, by (try simp only [rII, rIJ, rIP, rJJ, rJI, rJP, rPP, rPI, rPJ, g1, g2, g3, g4, g5, g6, g7, g8, Nat.reduceEqDiff, Nat.reduceAdd, false_and, and_false, true_and, and_true, reduceIte, nZ0, nZ1, hjx]), by (try simp only [rII, rIJ, rIP, rJJ, rJI, rJP, rPP, rPI, rPJ, g1, g2, g3, g4, g5, g6, g7, g8, Nat.reduceEqDiff, Nat.reduceAdd, false_and, and_false, true_and, and_true, reduceIte, nZ0, nZ1, hjx]), by (try simp only [rII, rIJ, rIP, rJJ, rJI, rJP, rPP, rPI, rPJ, g1, g2, g3, g4, g5, g6, g7, g8, Nat.reduceEqDiff, Nat.reduceAdd, false_and, and_false, true_and, and_true, reduceIte, nZ0, nZ1, hjx])⟩
        · (try simp only [rII, rIJ, rIP, rJJ, rJI, rJP, rPP, rPI, rPJ, g1, g2, g3, g4, g5, g6, g7, g8, Nat.reduceEqDiff, Nat.reduceAdd, false_and, and_false, true_and, and_true, reduceIte, nZ0, nZ1, hjx]) <;> (first | omega | with_reducible assumption | (unfold rng; omega) | (unfold rng; (repeat' split) <;> omega) | decide)
  refine ⟨_, L17 _ _ _ ?_ ?_ ?_ (Nat.lt_succ_self _)⟩
  · refine Rg.oI g ?_ (by assumption) (by (first | omega | with_reducible assumption | (unfold rng; omega) | (unfold rng; (repeat' split) <;> omega) | decide)); refine Rg.oI g ?_ (by assumption) (by (first | omega | with_reducible assumption | (unfold rng; omega) | (unfold rng; (repeat' split) <;> omega) | decide)); refine Rg.oI g ?_ (by assumption) (by (first | omega | with_reducible assumption | (unfold rng; omega) | (unfold rng; (repeat' split) <;> omega) | decide)); exact rσ
  · refine Fj.oI g ?_ (by assumption) (by decide); refine Fj.oI g ?_ (by assumption) (by decide); refine Fj.oI g ?_ (by assumption) (by decide); exact fσ
  · first | exact ⟨by omega, by omega, Od.j g k3, by (try simp only [rII, rIJ, rIP, rJJ, rJI, rJP, rPP, rPI, rPJ, g1, g2, g3, g4, g5, g6, g7, g8, Nat.reduceEqDiff, Nat.reduceAdd, false_and, and_false, true_and, and_true, reduceIte, nZ0, nZ1, hjx]) <;> exact k4, by (try simp only [rII, rIJ, rIP, rJJ, rJI, rJP, rPP, rPI, rPJ, g1, g2, g3, g4, g5, g6, g7, g8, Nat.reduceEqDiff, Nat.reduceAdd, false_and, and_false, true_and, and_true, reduceIte, nZ0, nZ1, hjx]) <;> exact k5, by (try simp only [rII, rIJ, rIP, rJJ, rJI, rJP, rPP, rPI, rPJ, g1, g2, g3, g4, g5, g6, g7, g8, Nat.reduceEqDiff, Nat.reduceAdd, false_and, and_false, true_and, and_true, reduceIte, nZ0, nZ1, hjx]) <;> exact k6⟩ | exact ⟨by omega, by omega, Od.o g (Od.o g (Od.o g Od.rf hjm) hjm) hjm, by (try simp only [rII, rIJ, rIP, rJJ, rJI, rJP, rPP, rPI, rPJ, g1, g2, g3, g4, g5, g6, g7, g8, Nat.reduceEqDiff, Nat.reduceAdd, false_and, and_false, true_and, and_true, reduceIte, nZ0, nZ1, hjx]), by (try simp only [rII, rIJ, rIP, rJJ, rJI, rJP, rPP, rPI, rPJ, g1, g2, g3, g4, g5, g6, g7, g8, Nat.reduceEqDiff, Nat.reduceAdd, false_and, and_false, true_and, and_true, reduceIte, nZ0, nZ1, hjx]), by (try simp only [rII, rIJ, rIP, rJJ, rJI, rJP, rPP, rPI, rPJ, g1, g2, g3, g4, g5, g6, g7, g8, Nat.reduceEqDiff, Nat.reduceAdd, false_and, and_false, true_and, and_true, reduceIte, nZ0, nZ1, hjx])⟩
set_option maxHeartbeats 8000000 in
theorem s_X16_job_71 {ra : Nat → Nat} {jx : Nat → Nat → Nat} {rm : Nat} {da : Nat} (g : Geo ra jx rm) {σ : Sg} (rσ : Rg ra jx rm σ) (hda : da = ra 15 ∨ da = ra 16) (h7 : gI σ rm 7 = 0) (h8 : gI σ rm 8 = 0) {Q : Sg → Int → Prop} {X : Sg → String → Prop} (hQ : ∀ (σ' : Sg) (r : Int), Rg ra jx rm σ' → Fj ra jx rm [15, 16, 22, 25, 40, 41, 42, 43, 44, 45, 46, 47, 48, 49, 54, 55, 56, 57, 58, 65, 75, 76, 77, 78, 86, 87, 88, 89, 98] [0, 3, 4, 5, 6, 7, 8, 9, 10, 11, 12, 13, 19, 27, 30, 31, 36, 50, 66, 67, 79, 80, 90, 91, 92, 93, 94, 110, 111, 112] [2, 3, 4, 5, 6, 7, 8, 9, 10, 11, 12, 13, 14, 15, 16, 18, 99] σ σ' → ((FaI ra jx rm da σ σ' ∧ r < 0) ∨ ((HeE ra rm σ' ∧ RecI ra rm σ' (fun a => if 0 ≤ a ∧ a < 4000 then 64 else -1) (fun a => 4000 - 1 - a) ∧ ThE ra rm σ' ∧ gI σ' rm 36 = 0 ∧ gI σ' rm 50 = 0 ∧ gI σ' rm 30 = 0 ∧ gI σ' rm 31 = 0 ∧ gI σ' (ra 98) 0 = 0 ∧ gI σ' (ra 98) 1 = 0 ∧ (∀ i : Nat, (i : Int) < 1100 → gI σ' (ra 54) i = 0) ∧ (∀ i : Nat, (i : Int) < 64 → gI σ' (ra 45) i = -1)) ∧ gP σ' rm 17 = some da ∧ JobOK jx da σ' ∧ (gI σ' rm 32 = gI σ rm 32 ∧ gI σ' rm 3 = gI σ rm 3))) → Q σ' r) : w_X16_job_71 ra jx rm Q X σ (some da) := by
  obtain ⟨g1, g2, g3, g4, g5, g6, g7, g8⟩ := id g
  have fσ : Fj ra jx rm [15, 16, 22, 25, 40, 41, 42, 43, 44, 45, 46, 47, 48, 49, 54, 55, 56, 57, 58, 65, 75, 76, 77, 78, 86, 87, 88, 89, 98] [0, 3, 4, 5, 6, 7, 8, 9, 10, 11, 12, 13, 19, 27, 30, 31, 36, 50, 66, 67, 79, 80, 90, 91, 92, 93, 94, 110, 111, 112] [2, 3, 4, 5, 6, 7, 8, 9, 10, 11, 12, 13, 14, 15, 16, 18, 99] σ σ := Fj.rf
  have hdm : ¬ da = rm := by rcases hda with q | q <;> rw [q] <;> exact g2 _
  have hmd : ¬ rm = da := fun q => hdm q.symm
  have hdj : ∀ a k, ¬ da = jx a k := fun a k => by rcases hda with q | q <;> rw [q] <;> exact g5 a k _
  have hjd : ∀ a k, ¬ jx a k = da := fun a k => by rcases hda with q | q <;> rw [q] <;> exact g4 a k _
  have cnw : ∀ (s : Sg) (k i : Nat) (x : Int), cn rm (pI s (jx da k) i x) = cn rm s := fun s k i x => cnI (g7 da k)
  have psw : ∀ (s : Sg) (k i : Nat) (x : Int), PsI rm (pI s (jx da k) i x) = PsI rm s := fun s k i x => PsIe (g7 da k)
  have cnd : ∀ (s : Sg) (k : Nat) (x : Int), cn rm (pI s da k x) = cn rm s := fun s k x => cnI hmd
  have psd : ∀ (s : Sg) (k : Nat) (x : Int), PsI rm (pI s da k x) = PsI rm s := fun s k x => PsIe hmd
  have q06 := rσ.2.1 6; simp only [rgS] at q06
  have hxJ : ∀ (σx : Sg) (E : String), Rg ra jx rm σx → Fj ra jx rm [15, 16, 22, 25, 40, 41, 42, 43, 44, 45, 46, 47, 48, 49, 54, 55, 56, 57, 58, 65, 75, 76, 77, 78, 86, 87, 88, 89, 98] [0, 3, 4, 5, 6, 7, 8, 9, 10, 11, 12, 13, 19, 27, 30, 31, 36, 50, 66, 67, 79, 80, 90, 91, 92, 93, 94, 110, 111, 112] [2, 3, 4, 5, 6, 7, 8, 9, 10, 11, 12, 13, 14, 15, 16, 18, 99] σ σx → (E = "StreamHouseModel$Fault" ∧ FaI ra jx rm da σ σx) → wx_X16_job_136 ra jx rm Q X σx E := by
    intro σx E rx fx px
    refine ⟨px.1, fun u0 => ?_⟩
    unfold w_X16_job_136
    have q5 := rx.2.1 5; simp only [rgS] at q5
    exact ⟨by unfold rng; omega, hQ _ _ rx fx (Or.inl ⟨px.2, by omega⟩)⟩
  unfold w_X16_job_71
  try simp only [forall_eq, rII, rIJ, rIP, rJJ, rJI, rJP, rPP, rPI, rPJ, g1, g2, g3, g4, g5, g6, g7, g8, Nat.reduceEqDiff, Nat.reduceAdd, false_and, and_false, true_and, and_true, reduceIte, nZ0, nZ1, hdm, hmd, hdj, hjd, cnJ, cnw, PsIJe, psw, cn19, PsI19e, cnd, psd]
  refine ⟨da, by first | exact hd9 | (simp only [rII, rIJ, rIP, rJJ, rJI, rJP, rPP, rPI, rPJ, g1, g2, g3, g4, g5, g6, g7, g8, Nat.reduceEqDiff, Nat.reduceAdd, false_and, and_false, true_and, and_true, reduceIte, nZ0, nZ1, hdm, hmd, hdj, hjd, cnJ, cnw, PsIJe, psw, cn19, PsI19e, cnd, psd]), hda, ?_⟩
  refine s2_X15_clear g (by refine Rg.pP ?_; exact rσ) hda (fun σ43 _ rσ43 fc p1 => ?_)
  have fσ43 : Fj ra jx rm [15, 16, 22, 25, 40, 41, 42, 43, 44, 45, 46, 47, 48, 49, 54, 55, 56, 57, 58, 65, 75, 76, 77, 78, 86, 87, 88, 89, 98] [0, 3, 4, 5, 6, 7, 8, 9, 10, 11, 12, 13, 19, 27, 30, 31, 36, 50, 66, 67, 79, 80, 90, 91, 92, 93, 94, 110, 111, 112] [2, 3, 4, 5, 6, 7, 8, 9, 10, 11, 12, 13, 14, 15, 16, 18, 99] σ σ43 := Fj.tr (by refine Fj.pP ?_ (by decide); exact fσ) (Fj.mor (fc) (by decide) (by decide) (by decide))
  have cσ43_0 := fc.2.1 0 (by decide)
  have cσ43_3 := fc.2.1 3 (by decide)
  have cσ43_5 := fc.2.1 5 (by decide)
  have cσ43_6 := fc.2.1 6 (by decide)
  have cσ43_8 := fc.2.1 8 (by decide)
  have cσ43_9 := fc.2.1 9 (by decide)
  have cσ43_30 := fc.2.1 30 (by decide)
  have cσ43_31 := fc.2.1 31 (by decide)
  have cσ43_36 := fc.2.1 36 (by decide)
  have cσ43_50 := fc.2.1 50 (by decide)
  have dσ43_45 := fc.1 45 (by decide)
  have dσ43_54 := fc.1 54 (by decide)
  have dσ43_98 := fc.1 98 (by decide)
  have fa9 : FaI ra jx rm da σ σ43 := FaI.st (σ' := pP σ rm 18 (some da)) ⟨fun _ _ => ⟨rfl, rfl⟩, fun _ _ => ⟨rfl, rfl⟩, Od.p Od.rf, rfl⟩ fc p1.1 (by decide) (by decide) (by decide)
  have hd9 : gP σ43 rm 18 = some da := by rw [fc.2.2.2 (by decide)]; simp only [rII, rIJ, rIP, rJJ, rJI, rJP, rPP, rPI, rPJ, g1, g2, g3, g4, g5, g6, g7, g8, Nat.reduceEqDiff, Nat.reduceAdd, false_and, and_false, true_and, and_true, reduceIte, nZ0, nZ1, hdm, hmd, hdj, hjd, cnJ, cnw, PsIJe, psw, cn19, PsI19e, cnd, psd]
  have z0 := p1.2.1; have z1 := p1.2.2.1; have z17 := p1.2.2.2
  have z7 := (fa9.2.1 6 (by decide)).1
  have w7 := (fc.2.1 7 (by decide)).1; have w8 := (fc.2.1 8 (by decide)).1
  simp only [rII, rIJ, rIP, rJJ, rJI, rJP, rPP, rPI, rPJ, g1, g2, g3, g4, g5, g6, g7, g8, Nat.reduceEqDiff, Nat.reduceAdd, false_and, and_false, true_and, and_true, reduceIte, nZ0, nZ1, hdm, hmd, hdj, hjd, cnJ, cnw, PsIJe, psw, cn19, PsI19e, cnd, psd] at w7 w8
  have psA : PsI rm (pI σ43 rm 4 0) := by unfold PsI; exact ⟨by simp only [rII, rIJ, rIP, rJJ, rJI, rJP, rPP, rPI, rPJ, g1, g2, g3, g4, g5, g6, g7, g8, Nat.reduceEqDiff, Nat.reduceAdd, false_and, and_false, true_and, and_true, reduceIte, nZ0, nZ1, hdm, hmd, hdj, hjd, cnJ, cnw, PsIJe, psw, cn19, PsI19e, cnd, psd]; omega, fun q => absurd (by simp only [rII, rIJ, rIP, rJJ, rJI, rJP, rPP, rPI, rPJ, g1, g2, g3, g4, g5, g6, g7, g8, Nat.reduceEqDiff, Nat.reduceAdd, false_and, and_false, true_and, and_true, reduceIte, nZ0, nZ1, hdm, hmd, hdj, hjd, cnJ, cnw, PsIJe, psw, cn19, PsI19e, cnd, psd]; omega) q⟩
  have cnA : cn rm (pI σ43 rm 4 0) = 0 := by unfold cn; simp only [rII, rIJ, rIP, rJJ, rJI, rJP, rPP, rPI, rPJ, g1, g2, g3, g4, g5, g6, g7, g8, Nat.reduceEqDiff, Nat.reduceAdd, false_and, and_false, true_and, and_true, reduceIte, nZ0, nZ1, hdm, hmd, hdj, hjd, cnJ, cnw, PsIJe, psw, cn19, PsI19e, cnd, psd]; rw [if_pos (by omega)]; omega
  have sσ43_32 := fσ43.2.1 32 (by decide)
  try simp only [rII, rIJ, rIP, rJJ, rJI, rJP, rPP, rPI, rPJ, g1, g2, g3, g4, g5, g6, g7, g8, Nat.reduceEqDiff, Nat.reduceAdd, false_and, and_false, true_and, and_true, reduceIte, nZ0, nZ1, hdm, hmd, hdj, hjd, cnJ, cnw, PsIJe, psw, cn19, PsI19e, cnd, psd, sσ43_32.1, sσ43_32.2, cσ43_0.1, cσ43_0.2, cσ43_3.1, cσ43_3.2, cσ43_5.1, cσ43_5.2, cσ43_6.1, cσ43_6.2, cσ43_8.1, cσ43_8.2, cσ43_9.1, cσ43_9.2, cσ43_30.1, cσ43_30.2, cσ43_31.1, cσ43_31.2, cσ43_36.1, cσ43_36.2, cσ43_50.1, cσ43_50.2, dσ43_45.1, dσ43_45.2, dσ43_54.1, dσ43_54.2, dσ43_98.1, dσ43_98.2] at p1
  try simp only [forall_eq, rII, rIJ, rIP, rJJ, rJI, rJP, rPP, rPI, rPJ, g1, g2, g3, g4, g5, g6, g7, g8, Nat.reduceEqDiff, Nat.reduceAdd, false_and, and_false, true_and, and_true, reduceIte, nZ0, nZ1, hdm, hmd, hdj, hjd, cnJ, cnw, PsIJe, psw, cn19, PsI19e, cnd, psd, sσ43_32.1, sσ43_32.2, cσ43_0.1, cσ43_0.2, cσ43_3.1, cσ43_3.2, cσ43_5.1, cσ43_5.2, cσ43_6.1, cσ43_6.2, cσ43_8.1, cσ43_8.2, cσ43_9.1, cσ43_9.2, cσ43_30.1, cσ43_30.2, cσ43_31.1, cσ43_31.2, cσ43_36.1, cσ43_36.2, cσ43_50.1, cσ43_50.2, dσ43_45.1, dσ43_45.2, dσ43_54.1, dσ43_54.2, dσ43_98.1, dσ43_98.2]
  unfold w_X16_job_86
  try simp only [forall_eq, rII, rIJ, rIP, rJJ, rJI, rJP, rPP, rPI, rPJ, g1, g2, g3, g4, g5, g6, g7, g8, Nat.reduceEqDiff, Nat.reduceAdd, false_and, and_false, true_and, and_true, reduceIte, nZ0, nZ1, hdm, hmd, hdj, hjd, cnJ, cnw, PsIJe, psw, cn19, PsI19e, cnd, psd, sσ43_32.1, sσ43_32.2, cσ43_0.1, cσ43_0.2, cσ43_3.1, cσ43_3.2, cσ43_5.1, cσ43_5.2, cσ43_6.1, cσ43_6.2, cσ43_8.1, cσ43_8.2, cσ43_9.1, cσ43_9.2, cσ43_30.1, cσ43_30.2, cσ43_31.1, cσ43_31.2, cσ43_36.1, cσ43_36.2, cσ43_50.1, cσ43_50.2, dσ43_45.1, dσ43_45.2, dσ43_54.1, dσ43_54.2, dσ43_98.1, dσ43_98.2]
  refine s2_X16_see g (by refine Rg.sI g ?_ (by simp only [rgS]; first | with_reducible exact nZ_rng _ | with_reducible exact nB_rng _ | with_reducible exact wr_rng _ | with_reducible exact i32any _ | (first | omega | with_reducible assumption | (unfold rng; omega) | (unfold rng; (repeat' split) <;> omega) | decide)); exact rσ43) (by first | exact ps9 | exact psA) (fun σ45 _ rσ45 fc p2 => ?_) (fun σx E rx fx px => hxJ _ _ rx (Fj.tr (by refine Fj.sI g ?_ (by decide); exact fσ43) (Fj.mor (fx.j) (by decide) (by decide) (by decide))) ⟨px, FaI.fr (FaI.fr fa9 hda (show Fr ra jx rm [] [4] _ _ from Fr.sI g Fr.rf (by decide)) (by decide)) hda fx (by decide)⟩)
  have fσ45 : Fj ra jx rm [15, 16, 22, 25, 40, 41, 42, 43, 44, 45, 46, 47, 48, 49, 54, 55, 56, 57, 58, 65, 75, 76, 77, 78, 86, 87, 88, 89, 98] [0, 3, 4, 5, 6, 7, 8, 9, 10, 11, 12, 13, 19, 27, 30, 31, 36, 50, 66, 67, 79, 80, 90, 91, 92, 93, 94, 110, 111, 112] [2, 3, 4, 5, 6, 7, 8, 9, 10, 11, 12, 13, 14, 15, 16, 18, 99] σ σ45 := Fj.tr (by refine Fj.sI g ?_ (by decide); exact fσ43) (Fj.mor (fc.j) (by decide) (by decide) (by decide))
  have cσ45_0 := fc.2.1 0 (by decide)
  have cσ45_3 := fc.2.1 3 (by decide)
  have cσ45_6 := fc.2.1 6 (by decide)
  have cσ45_30 := fc.2.1 30 (by decide)
  have cσ45_31 := fc.2.1 31 (by decide)
  have cσ45_36 := fc.2.1 36 (by decide)
  have cσ45_50 := fc.2.1 50 (by decide)
  have dσ45_45 := fc.1 45 (by decide)
  have dσ45_54 := fc.1 54 (by decide)
  have dσ45_98 := fc.1 98 (by decide)
  have oσ45 := Fr.ob fc hda (by decide)
  have ps9 := p2.1
  have cq9 := p2.2.1; have s89 := p2.2.2
  rw [cnA] at cq9
  have fa9 : FaI ra jx rm da σ σ45 := FaI.fr (FaI.fr fa9 hda (show Fr ra jx rm [] [4] _ _ from Fr.sI g Fr.rf (by decide)) (by decide)) hda fc (by decide)
  have hd9 : gP σ45 rm 18 = some da := by rw [fc.2.2.2]; exact hd9
  have obn := Fr.ob fc hda (by decide)
  have n17 := congrFun obn 17; have n0 := congrFun obn 0; have n1 := congrFun obn 1
  (try simp only [rII, rIJ, rIP, rJJ, rJI, rJP, rPP, rPI, rPJ, g1, g2, g3, g4, g5, g6, g7, g8, Nat.reduceEqDiff, Nat.reduceAdd, false_and, and_false, true_and, and_true, reduceIte, nZ0, nZ1, hdm, hmd, hdj, hjd, cnJ, cnw, PsIJe, psw, cn19, PsI19e, cnd, psd] at n17 n0 n1)
  have dr9 : DrI jx da σ45 := DrI.nil (by omega) (by omega)
  have le6 := PsI.le ps9
  have s6n := (fa9.2.1 6 (by decide)).1
  have sσ45_32 := fσ45.2.1 32 (by decide)
  try simp only [rII, rIJ, rIP, rJJ, rJI, rJP, rPP, rPI, rPJ, g1, g2, g3, g4, g5, g6, g7, g8, Nat.reduceEqDiff, Nat.reduceAdd, false_and, and_false, true_and, and_true, reduceIte, nZ0, nZ1, hdm, hmd, hdj, hjd, cnJ, cnw, PsIJe, psw, cn19, PsI19e, cnd, psd, sσ45_32.1, sσ45_32.2, cσ43_0.1, cσ43_0.2, cσ43_3.1, cσ43_3.2, cσ43_5.1, cσ43_5.2, cσ43_6.1, cσ43_6.2, cσ43_8.1, cσ43_8.2, cσ43_9.1, cσ43_9.2, cσ43_30.1, cσ43_30.2, cσ43_31.1, cσ43_31.2, cσ43_36.1, cσ43_36.2, cσ43_50.1, cσ43_50.2, dσ43_45.1, dσ43_45.2, dσ43_54.1, dσ43_54.2, dσ43_98.1, dσ43_98.2, cσ45_0.1, cσ45_0.2, cσ45_3.1, cσ45_3.2, cσ45_6.1, cσ45_6.2, cσ45_30.1, cσ45_30.2, cσ45_31.1, cσ45_31.2, cσ45_36.1, cσ45_36.2, cσ45_50.1, cσ45_50.2, dσ45_45.1, dσ45_45.2, dσ45_54.1, dσ45_54.2, dσ45_98.1, dσ45_98.2, oσ45] at p2
  try simp only [forall_eq, rII, rIJ, rIP, rJJ, rJI, rJP, rPP, rPI, rPJ, g1, g2, g3, g4, g5, g6, g7, g8, Nat.reduceEqDiff, Nat.reduceAdd, false_and, and_false, true_and, and_true, reduceIte, nZ0, nZ1, hdm, hmd, hdj, hjd, cnJ, cnw, PsIJe, psw, cn19, PsI19e, cnd, psd, sσ45_32.1, sσ45_32.2, cσ43_0.1, cσ43_0.2, cσ43_3.1, cσ43_3.2, cσ43_5.1, cσ43_5.2, cσ43_6.1, cσ43_6.2, cσ43_8.1, cσ43_8.2, cσ43_9.1, cσ43_9.2, cσ43_30.1, cσ43_30.2, cσ43_31.1, cσ43_31.2, cσ43_36.1, cσ43_36.2, cσ43_50.1, cσ43_50.2, dσ43_45.1, dσ43_45.2, dσ43_54.1, dσ43_54.2, dσ43_98.1, dσ43_98.2, cσ45_0.1, cσ45_0.2, cσ45_3.1, cσ45_3.2, cσ45_6.1, cσ45_6.2, cσ45_30.1, cσ45_30.2, cσ45_31.1, cσ45_31.2, cσ45_36.1, cσ45_36.2, cσ45_50.1, cσ45_50.2, dσ45_45.1, dσ45_45.2, dσ45_54.1, dσ45_54.2, dσ45_98.1, dσ45_98.2, oσ45]
  have q3 := rσ.2.1 6; simp only [rgS, hdm, hmd, hdj, hjd, cnJ, cnw, PsIJe, psw, cn19, PsI19e, cnd, psd] at q3
  have L90 : ∀ (fu90 : Nat) (τ90 : Sg), Rg ra jx rm τ90 → Fj ra jx rm [15, 16, 22, 25, 40, 41, 42, 43, 44, 45, 46, 47, 48, 49, 54, 55, 56, 57, 58, 65, 75, 76, 77, 78, 86, 87, 88, 89, 98] [0, 3, 4, 5, 6, 7, 8, 9, 10, 11, 12, 13, 19, 27, 30, 31, 36, 50, 66, 67, 79, 80, 90, 91, 92, 93, 94, 110, 111, 112] [2, 3, 4, 5, 6, 7, 8, 9, 10, 11, 12, 13, 14, 15, 16, 18, 99] σ τ90 → ((PsI rm τ90 ∧ gI τ90 rm 8 = 1) ∧ (0 ≤ gI τ90 da 17 ∧ gI τ90 da 17 ≤ 4 * cn rm τ90 ∧ gI τ90 da 17 ≤ 6000) ∧ DrI jx da τ90 ∧ gP τ90 rm 18 = some da ∧ FaI ra jx rm da σ τ90) → ((gI σ rm 6 - cn rm τ90).toNat) < fu90 → wl_X16_job_90 ra jx rm Q X fu90 τ90 := by
    intro fu90
    induction fu90 with
    | zero => intro τ90 _ _ _ h9; omega
    | succ fu90 ih90 =>
      intro τ90 rτ90 fτ90 hi90 hm90
      unfold wl_X16_job_90
      have sτ90_32 := fτ90.2.1 32 (by decide)
      unfold w_X16_job_90
      try simp only [forall_eq, rII, rIJ, rIP, rJJ, rJI, rJP, rPP, rPI, rPJ, g1, g2, g3, g4, g5, g6, g7, g8, Nat.reduceEqDiff, Nat.reduceAdd, false_and, and_false, true_and, and_true, reduceIte, nZ0, nZ1, hdm, hmd, hdj, hjd, cnJ, cnw, PsIJe, psw, cn19, PsI19e, cnd, psd, sτ90_32.1, sτ90_32.2]
      obtain ⟨⟨ps9, s8⟩, nb9, dr9, hd9, fa9⟩ := hi90
      have nb0 := nb9.1; have nb1 := nb9.2.1; have nb2 := nb9.2.2
      have le6 := PsI.le ps9
      have s6n := (fa9.2.1 6 (by decide)).1
      have q4 := rτ90.2.1 9; simp only [rgS, hdm, hmd, hdj, hjd, cnJ, cnw, PsIJe, psw, cn19, PsI19e, cnd, psd] at q4
      split
      · rename_i hc95
        skip
        unfold w_X16_job_108
        try simp only [forall_eq, rII, rIJ, rIP, rJJ, rJI, rJP, rPP, rPI, rPJ, g1, g2, g3, g4, g5, g6, g7, g8, Nat.reduceEqDiff, Nat.reduceAdd, false_and, and_false, true_and, and_true, reduceIte, nZ0, nZ1, hdm, hmd, hdj, hjd, cnJ, cnw, PsIJe, psw, cn19, PsI19e, cnd, psd, sτ90_32.1, sτ90_32.2]
        rw [if_pos hc95]
        unfold w_X16_job_122
        try simp only [forall_eq, rII, rIJ, rIP, rJJ, rJI, rJP, rPP, rPI, rPJ, g1, g2, g3, g4, g5, g6, g7, g8, Nat.reduceEqDiff, Nat.reduceAdd, false_and, and_false, true_and, and_true, reduceIte, nZ0, nZ1, hdm, hmd, hdj, hjd, cnJ, cnw, PsIJe, psw, cn19, PsI19e, cnd, psd, sτ90_32.1, sτ90_32.2]
        refine s_X16_statement g rτ90 (by first | exact ps9 | exact psA) (by exact hd9) hda nb9 dr9 (fun σ46 _ rσ46 fc p5 => ?_) (fun σx E rx fx px => hxJ _ _ rx (Fj.tr fτ90 (Fj.mor (fx.fj) (by decide) (by decide) (by decide))) ⟨px, FaI.st fa9 (FdO.fj fx) fx.2.2.2.2.1 (by decide) (by decide) (by decide)⟩)
        have fσ46 : Fj ra jx rm [15, 16, 22, 25, 40, 41, 42, 43, 44, 45, 46, 47, 48, 49, 54, 55, 56, 57, 58, 65, 75, 76, 77, 78, 86, 87, 88, 89, 98] [0, 3, 4, 5, 6, 7, 8, 9, 10, 11, 12, 13, 19, 27, 30, 31, 36, 50, 66, 67, 79, 80, 90, 91, 92, 93, 94, 110, 111, 112] [2, 3, 4, 5, 6, 7, 8, 9, 10, 11, 12, 13, 14, 15, 16, 18, 99] σ σ46 := Fj.tr fτ90 (Fj.mor (fc.fj) (by decide) (by decide) (by decide))
        have cσ46_0 := fc.2.1 0 (by decide)
        have cσ46_3 := fc.2.1 3 (by decide)
        have cσ46_6 := fc.2.1 6 (by decide)
        have cσ46_30 := fc.2.1 30 (by decide)
        have cσ46_31 := fc.2.1 31 (by decide)
        have cσ46_36 := fc.2.1 36 (by decide)
        have cσ46_50 := fc.2.1 50 (by decide)
        have dσ46_45 := fc.1 45 (by decide)
        have dσ46_54 := fc.1 54 (by decide)
        have dσ46_98 := fc.1 98 (by decide)
        have ps9 := p5.1; have cq9 := p5.2.1; have nb9 := p5.2.2.1; have dr9 := p5.2.2.2
        have nb0 := nb9.1; have nb1 := nb9.2.1; have nb2 := nb9.2.2
        have hd9 : gP σ46 rm 18 = some da := by rw [fc.2.2.2.1 (by decide)]; exact hd9
        have fa9 : FaI ra jx rm da σ σ46 := FaI.st fa9 (FdO.fj fc) fc.2.2.2.2.1 (by decide) (by decide) (by decide)
        have le6 := PsI.le ps9
        have s6n := (fa9.2.1 6 (by decide)).1
        have sσ46_32 := fσ46.2.1 32 (by decide)
        try simp only [rII, rIJ, rIP, rJJ, rJI, rJP, rPP, rPI, rPJ, g1, g2, g3, g4, g5, g6, g7, g8, Nat.reduceEqDiff, Nat.reduceAdd, false_and, and_false, true_and, and_true, reduceIte, nZ0, nZ1, hdm, hmd, hdj, hjd, cnJ, cnw, PsIJe, psw, cn19, PsI19e, cnd, psd, sσ46_32.1, sσ46_32.2, cσ46_0.1, cσ46_0.2, cσ46_3.1, cσ46_3.2, cσ46_6.1, cσ46_6.2, cσ46_30.1, cσ46_30.2, cσ46_31.1, cσ46_31.2, cσ46_36.1, cσ46_36.2, cσ46_50.1, cσ46_50.2, dσ46_45.1, dσ46_45.2, dσ46_54.1, dσ46_54.2, dσ46_98.1, dσ46_98.2] at p5
        try simp only [forall_eq, rII, rIJ, rIP, rJJ, rJI, rJP, rPP, rPI, rPJ, g1, g2, g3, g4, g5, g6, g7, g8, Nat.reduceEqDiff, Nat.reduceAdd, false_and, and_false, true_and, and_true, reduceIte, nZ0, nZ1, hdm, hmd, hdj, hjd, cnJ, cnw, PsIJe, psw, cn19, PsI19e, cnd, psd, sσ46_32.1, sσ46_32.2, cσ46_0.1, cσ46_0.2, cσ46_3.1, cσ46_3.2, cσ46_6.1, cσ46_6.2, cσ46_30.1, cσ46_30.2, cσ46_31.1, cσ46_31.2, cσ46_36.1, cσ46_36.2, cσ46_50.1, cσ46_50.2, dσ46_45.1, dσ46_45.2, dσ46_54.1, dσ46_54.2, dσ46_98.1, dσ46_98.2]
        refine s2_X16_see g rσ46 (by first | exact ps9 | exact psA) (fun σ47 _ rσ47 fc p6 => ?_) (fun σx E rx fx px => hxJ _ _ rx (Fj.tr fσ46 (Fj.mor (fx.j) (by decide) (by decide) (by decide))) ⟨px, FaI.fr fa9 hda fx (by decide)⟩)
        have fσ47 : Fj ra jx rm [15, 16, 22, 25, 40, 41, 42, 43, 44, 45, 46, 47, 48, 49, 54, 55, 56, 57, 58, 65, 75, 76, 77, 78, 86, 87, 88, 89, 98] [0, 3, 4, 5, 6, 7, 8, 9, 10, 11, 12, 13, 19, 27, 30, 31, 36, 50, 66, 67, 79, 80, 90, 91, 92, 93, 94, 110, 111, 112] [2, 3, 4, 5, 6, 7, 8, 9, 10, 11, 12, 13, 14, 15, 16, 18, 99] σ σ47 := Fj.tr fσ46 (Fj.mor (fc.j) (by decide) (by decide) (by decide))
        have cσ47_0 := fc.2.1 0 (by decide)
        have cσ47_3 := fc.2.1 3 (by decide)
        have cσ47_6 := fc.2.1 6 (by decide)
        have cσ47_30 := fc.2.1 30 (by decide)
        have cσ47_31 := fc.2.1 31 (by decide)
        have cσ47_36 := fc.2.1 36 (by decide)
        have cσ47_50 := fc.2.1 50 (by decide)
        have dσ47_45 := fc.1 45 (by decide)
        have dσ47_54 := fc.1 54 (by decide)
        have dσ47_98 := fc.1 98 (by decide)
        have oσ47 := Fr.ob fc hda (by decide)
        have ps9 := p6.1; have cq9 := p6.2
        have hd9 : gP σ47 rm 18 = some da := by rw [fc.2.2.2]; exact hd9
        have fa9 : FaI ra jx rm da σ σ47 := FaI.fr fa9 hda fc (by decide)
        have obn := Fr.ob fc hda (by decide)
        have n17 := congrFun obn 17
        have dr9 := DrI.same dr9 (fun k => fc.2.2.1 da k) obn
        have le6 := PsI.le ps9
        have s6n := (fa9.2.1 6 (by decide)).1
        have sσ47_32 := fσ47.2.1 32 (by decide)
        try simp only [rII, rIJ, rIP, rJJ, rJI, rJP, rPP, rPI, rPJ, g1, g2, g3, g4, g5, g6, g7, g8, Nat.reduceEqDiff, Nat.reduceAdd, false_and, and_false, true_and, and_true, reduceIte, nZ0, nZ1, hdm, hmd, hdj, hjd, cnJ, cnw, PsIJe, psw, cn19, PsI19e, cnd, psd, sσ47_32.1, sσ47_32.2, cσ46_0.1, cσ46_0.2, cσ46_3.1, cσ46_3.2, cσ46_6.1, cσ46_6.2, cσ46_30.1, cσ46_30.2, cσ46_31.1, cσ46_31.2, cσ46_36.1, cσ46_36.2, cσ46_50.1, cσ46_50.2, dσ46_45.1, dσ46_45.2, dσ46_54.1, dσ46_54.2, dσ46_98.1, dσ46_98.2, cσ47_0.1, cσ47_0.2, cσ47_3.1, cσ47_3.2, cσ47_6.1, cσ47_6.2, cσ47_30.1, cσ47_30.2, cσ47_31.1, cσ47_31.2, cσ47_36.1, cσ47_36.2, cσ47_50.1, cσ47_50.2, dσ47_45.1, dσ47_45.2, dσ47_54.1, dσ47_54.2, dσ47_98.1, dσ47_98.2, oσ47] at p6
        try simp only [forall_eq, rII, rIJ, rIP, rJJ, rJI, rJP, rPP, rPI, rPJ, g1, g2, g3, g4, g5, g6, g7, g8, Nat.reduceEqDiff, Nat.reduceAdd, false_and, and_false, true_and, and_true, reduceIte, nZ0, nZ1, hdm, hmd, hdj, hjd, cnJ, cnw, PsIJe, psw, cn19, PsI19e, cnd, psd, sσ47_32.1, sσ47_32.2, cσ46_0.1, cσ46_0.2, cσ46_3.1, cσ46_3.2, cσ46_6.1, cσ46_6.2, cσ46_30.1, cσ46_30.2, cσ46_31.1, cσ46_31.2, cσ46_36.1, cσ46_36.2, cσ46_50.1, cσ46_50.2, dσ46_45.1, dσ46_45.2, dσ46_54.1, dσ46_54.2, dσ46_98.1, dσ46_98.2, cσ47_0.1, cσ47_0.2, cσ47_3.1, cσ47_3.2, cσ47_6.1, cσ47_6.2, cσ47_30.1, cσ47_30.2, cσ47_31.1, cσ47_31.2, cσ47_36.1, cσ47_36.2, cσ47_50.1, cσ47_50.2, dσ47_45.1, dσ47_45.2, dσ47_54.1, dσ47_54.2, dσ47_98.1, dσ47_98.2, oσ47]
        refine ih90 _ ?_ ?_ ?_ ?_
        · exact rσ47
        · exact fσ47
        · exact ⟨⟨ps9, by omega⟩, ⟨by omega, by omega, by omega⟩, dr9, hd9, fa9⟩
        · (try simp only [rII, rIJ, rIP, rJJ, rJI, rJP, rPP, rPI, rPJ, g1, g2, g3, g4, g5, g6, g7, g8, Nat.reduceEqDiff, Nat.reduceAdd, false_and, and_false, true_and, and_true, reduceIte, nZ0, nZ1, hdm, hmd, hdj, hjd, cnJ, cnw, PsIJe, psw, cn19, PsI19e, cnd, psd, sσ47_32.1, sσ47_32.2, cσ46_0.1, cσ46_0.2, cσ46_3.1, cσ46_3.2, cσ46_6.1, cσ46_6.2, cσ46_30.1, cσ46_30.2, cσ46_31.1, cσ46_31.2, cσ46_36.1, cσ46_36.2, cσ46_50.1, cσ46_50.2, dσ46_45.1, dσ46_45.2, dσ46_54.1, dσ46_54.2, dσ46_98.1, dσ46_98.2, cσ47_0.1, cσ47_0.2, cσ47_3.1, cσ47_3.2, cσ47_6.1, cσ47_6.2, cσ47_30.1, cσ47_30.2, cσ47_31.1, cσ47_31.2, cσ47_36.1, cσ47_36.2, cσ47_50.1, cσ47_50.2, dσ47_45.1, dσ47_45.2, dσ47_54.1, dσ47_54.2, dσ47_98.1, dσ47_98.2, oσ47]) <;> (first | omega | with_reducible assumption | (unfold rng; omega) | (unfold rng; (repeat' split) <;> omega) | decide)
      · rename_i hc95
        skip
        unfold w_X16_job_98
        try simp only [forall_eq, rII, rIJ, rIP, rJJ, rJI, rJP, rPP, rPI, rPJ, g1, g2, g3, g4, g5, g6, g7, g8, Nat.reduceEqDiff, Nat.reduceAdd, false_and, and_false, true_and, and_true, reduceIte, nZ0, nZ1, hdm, hmd, hdj, hjd, cnJ, cnw, PsIJe, psw, cn19, PsI19e, cnd, psd, sτ90_32.1, sτ90_32.2]
        refine ⟨da, by first | exact hd9 | (simp only [rII, rIJ, rIP, rJJ, rJI, rJP, rPP, rPI, rPJ, g1, g2, g3, g4, g5, g6, g7, g8, Nat.reduceEqDiff, Nat.reduceAdd, false_and, and_false, true_and, and_true, reduceIte, nZ0, nZ1, hdm, hmd, hdj, hjd, cnJ, cnw, PsIJe, psw, cn19, PsI19e, cnd, psd, sτ90_32.1, sτ90_32.2]), hda, ?_⟩
        split
        · rename_i hc105
          skip
          unfold w_X16_job_133
          try simp only [forall_eq, rII, rIJ, rIP, rJJ, rJI, rJP, rPP, rPI, rPJ, g1, g2, g3, g4, g5, g6, g7, g8, Nat.reduceEqDiff, Nat.reduceAdd, false_and, and_false, true_and, and_true, reduceIte, nZ0, nZ1, hdm, hmd, hdj, hjd, cnJ, cnw, PsIJe, psw, cn19, PsI19e, cnd, psd, sτ90_32.1, sτ90_32.2]
          unfold w_X16_job_144
          try simp only [forall_eq, rII, rIJ, rIP, rJJ, rJI, rJP, rPP, rPI, rPJ, g1, g2, g3, g4, g5, g6, g7, g8, Nat.reduceEqDiff, Nat.reduceAdd, false_and, and_false, true_and, and_true, reduceIte, nZ0, nZ1, hdm, hmd, hdj, hjd, cnJ, cnw, PsIJe, psw, cn19, PsI19e, cnd, psd, sτ90_32.1, sτ90_32.2]
          have jb9 := DrI.job dr9 (by assumption)
          refine s_X16_noRun g (by refine Rg.pP ?_; exact rτ90) (fun σ50 _ rσ50 fc p8 => ?_)
          have fσ50 : Fj ra jx rm [15, 16, 22, 25, 40, 41, 42, 43, 44, 45, 46, 47, 48, 49, 54, 55, 56, 57, 58, 65, 75, 76, 77, 78, 86, 87, 88, 89, 98] [0, 3, 4, 5, 6, 7, 8, 9, 10, 11, 12, 13, 19, 27, 30, 31, 36, 50, 66, 67, 79, 80, 90, 91, 92, 93, 94, 110, 111, 112] [2, 3, 4, 5, 6, 7, 8, 9, 10, 11, 12, 13, 14, 15, 16, 18, 99] σ σ50 := Fj.tr (by refine Fj.pP ?_ (by decide); exact fτ90) (Fj.mor (fc.j) (by decide) (by decide) (by decide))
          have cσ50_0 := fc.2.1 0 (by decide)
          have cσ50_3 := fc.2.1 3 (by decide)
          have cσ50_5 := fc.2.1 5 (by decide)
          have cσ50_6 := fc.2.1 6 (by decide)
          have cσ50_8 := fc.2.1 8 (by decide)
          have cσ50_9 := fc.2.1 9 (by decide)
          have oσ50 := Fr.ob fc hda (by decide)
          have n32 := (fc.2.1 32 (by decide)).1; have n3 := (fc.2.1 3 (by decide)).1
          have f32 := (fa9.2.1 32 (by decide)).1; have f3 := (fa9.2.1 3 (by decide)).1
          have jo9 : JobOK jx da σ50 := JobOK.fr (by exact jb9) hda fc (by decide)
          have hj8 : gP σ50 rm 17 = some da := by rw [fc.2.2.2]; simp only [rII, rIJ, rIP, rJJ, rJI, rJP, rPP, rPI, rPJ, g1, g2, g3, g4, g5, g6, g7, g8, Nat.reduceEqDiff, Nat.reduceAdd, false_and, and_false, true_and, and_true, reduceIte, nZ0, nZ1, hdm, hmd, hdj, hjd, cnJ, cnw, PsIJe, psw, cn19, PsI19e, cnd, psd, sτ90_32.1, sτ90_32.2]; first | exact hd9 | rw [hd9]
          obtain ⟨s9, hs9⟩ : ∃ s, s = σ50 := ⟨_, rfl⟩
          have nr9 := p8
          rw [← hs9] at nr9 jo9 hj8 n32 n3
          have hj9 := hj8
          have sσ50_32 := fσ50.2.1 32 (by decide)
          try simp only [rII, rIJ, rIP, rJJ, rJI, rJP, rPP, rPI, rPJ, g1, g2, g3, g4, g5, g6, g7, g8, Nat.reduceEqDiff, Nat.reduceAdd, false_and, and_false, true_and, and_true, reduceIte, nZ0, nZ1, hdm, hmd, hdj, hjd, cnJ, cnw, PsIJe, psw, cn19, PsI19e, cnd, psd, sσ50_32.1, sσ50_32.2, cσ50_0.1, cσ50_0.2, cσ50_3.1, cσ50_3.2, cσ50_5.1, cσ50_5.2, cσ50_6.1, cσ50_6.2, cσ50_8.1, cσ50_8.2, cσ50_9.1, cσ50_9.2, oσ50] at p8
          try simp only [forall_eq, rII, rIJ, rIP, rJJ, rJI, rJP, rPP, rPI, rPJ, g1, g2, g3, g4, g5, g6, g7, g8, Nat.reduceEqDiff, Nat.reduceAdd, false_and, and_false, true_and, and_true, reduceIte, nZ0, nZ1, hdm, hmd, hdj, hjd, cnJ, cnw, PsIJe, psw, cn19, PsI19e, cnd, psd, sσ50_32.1, sσ50_32.2, cσ50_0.1, cσ50_0.2, cσ50_3.1, cσ50_3.2, cσ50_5.1, cσ50_5.2, cσ50_6.1, cσ50_6.2, cσ50_8.1, cσ50_8.2, cσ50_9.1, cσ50_9.2, oσ50]
          have L158 : ∀ (fu158 : Nat) (τ158 : Sg) (v1 : Int), Rg ra jx rm τ158 → Fj ra jx rm [15, 16, 22, 25, 40, 41, 42, 43, 44, 45, 46, 47, 48, 49, 54, 55, 56, 57, 58, 65, 75, 76, 77, 78, 86, 87, 88, 89, 98] [0, 3, 4, 5, 6, 7, 8, 9, 10, 11, 12, 13, 19, 27, 30, 31, 36, 50, 66, 67, 79, 80, 90, 91, 92, 93, 94, 110, 111, 112] [2, 3, 4, 5, 6, 7, 8, 9, 10, 11, 12, 13, 14, 15, 16, 18, 99] σ τ158 → (0 ≤ v1 ∧ v1 ≤ 4 ∧ Fr ra jx rm [22, 25] [] s9 τ158) → ((4 - v1).toNat) < fu158 → wl_X16_job_158 ra jx rm Q X fu158 τ158 v1 := by
            intro fu158
            induction fu158 with
            | zero => intro τ158 _ _ _ _ h9; omega
            | succ fu158 ih158 =>
              intro τ158 v1 rτ158 fτ158 hi158 hm158
              unfold wl_X16_job_158
              have sτ158_32 := fτ158.2.1 32 (by decide)
              unfold w_X16_job_158
              try simp only [forall_eq, rII, rIJ, rIP, rJJ, rJI, rJP, rPP, rPI, rPJ, g1, g2, g3, g4, g5, g6, g7, g8, Nat.reduceEqDiff, Nat.reduceAdd, false_and, and_false, true_and, and_true, reduceIte, nZ0, nZ1, hdm, hmd, hdj, hjd, cnJ, cnw, PsIJe, psw, cn19, PsI19e, cnd, psd, sτ158_32.1, sτ158_32.2]
              obtain ⟨k1, k2, k3⟩ := hi158
              split
              · rename_i hc160
                skip
                unfold w_X16_job_183
                try simp only [forall_eq, rII, rIJ, rIP, rJJ, rJI, rJP, rPP, rPI, rPJ, g1, g2, g3, g4, g5, g6, g7, g8, Nat.reduceEqDiff, Nat.reduceAdd, false_and, and_false, true_and, and_true, reduceIte, nZ0, nZ1, hdm, hmd, hdj, hjd, cnJ, cnw, PsIJe, psw, cn19, PsI19e, cnd, psd, sτ158_32.1, sτ158_32.2]
                refine ⟨da, by rw [k3.2.2.2]; exact hj9, hda, ?_⟩
                refine hQ _ _ ?_ ?_ ?_
                · exact rτ158
                · exact fτ158
                · obtain ⟨q1, q2, q3, q4, q5, q6, q7, q8, q9, q10, q11⟩ := nr9; refine Or.inr ⟨⟨HeE.fr q1 k3 (by decide) (by decide), RecI.fr q2 k3 (by decide) (by decide), ThE.fr q3 k3 (by decide) (by decide), ?_, ?_, ?_, ?_, ?_, ?_, ?_, ?_⟩, by rw [k3.2.2.2]; exact hj9, JobOK.fr jo9 hda k3 (by decide), ?_⟩ <;> first | (rw [(k3.2.1 36 (by decide)).1]; exact q4) | (rw [(k3.2.1 50 (by decide)).1]; exact q5) | (rw [(k3.2.1 30 (by decide)).1]; exact q6) | (rw [(k3.2.1 31 (by decide)).1]; exact q7) | (rw [(k3.1 98 (by decide)).1]; exact q8) | (rw [(k3.1 98 (by decide)).1]; exact q9) | (rw [(k3.1 54 (by decide)).1]; exact q10) | (rw [(k3.1 45 (by decide)).1]; exact q11) | (exact ⟨by rw [(k3.2.1 32 (by decide)).1, n32]; exact f32, by rw [(k3.2.1 3 (by decide)).1, n3]; exact f3⟩)
              · rename_i hc160
                skip
                unfold w_X16_job_163
                try simp only [forall_eq, rII, rIJ, rIP, rJJ, rJI, rJP, rPP, rPI, rPJ, g1, g2, g3, g4, g5, g6, g7, g8, Nat.reduceEqDiff, Nat.reduceAdd, false_and, and_false, true_and, and_true, reduceIte, nZ0, nZ1, hdm, hmd, hdj, hjd, cnJ, cnw, PsIJe, psw, cn19, PsI19e, cnd, psd, sτ158_32.1, sτ158_32.2]
                refine ⟨by (first | omega | with_reducible assumption | (unfold rng; omega) | (unfold rng; (repeat' split) <;> omega) | decide), ?_⟩
                refine ⟨by (first | omega | with_reducible assumption | (unfold rng; omega) | (unfold rng; (repeat' split) <;> omega) | decide), ?_⟩
                refine ⟨by (first | omega | with_reducible assumption | (unfold rng; omega) | (unfold rng; (repeat' split) <;> omega) | decide), ?_⟩
                refine ih158 _ _ ?_ ?_ ?_ ?_
                · refine Rg.aI g ?_ (by simp only [rgT]; first | with_reducible exact nZ_rng _ | with_reducible exact nB_rng _ | with_reducible exact wr_rng _ | with_reducible exact i32any _ | (first | omega | with_reducible assumption | (unfold rng; omega) | (unfold rng; (repeat' split) <;> omega) | decide)); refine Rg.aI g ?_ (by simp only [rgT]; first | with_reducible exact nZ_rng _ | with_reducible exact nB_rng _ | with_reducible exact wr_rng _ | with_reducible exact i32any _ | (first | omega | with_reducible assumption | (unfold rng; omega) | (unfold rng; (repeat' split) <;> omega) | decide)); exact rτ158
                · refine Fj.aI g ?_ (by decide); refine Fj.aI g ?_ (by decide); exact fτ158
                · first | exact ⟨by omega, by omega, by rw [hs9]; exact Fr.rf⟩ | exact ⟨by omega, by omega, Fr.aI g (Fr.aI g k3 (by decide)) (by decide)⟩
                · (try simp only [rII, rIJ, rIP, rJJ, rJI, rJP, rPP, rPI, rPJ, g1, g2, g3, g4, g5, g6, g7, g8, Nat.reduceEqDiff, Nat.reduceAdd, false_and, and_false, true_and, and_true, reduceIte, nZ0, nZ1, hdm, hmd, hdj, hjd, cnJ, cnw, PsIJe, psw, cn19, PsI19e, cnd, psd, sτ158_32.1, sτ158_32.2]) <;> (first | omega | with_reducible assumption | (unfold rng; omega) | (unfold rng; (repeat' split) <;> omega) | decide)
          refine ⟨_, L158 _ _ _ ?_ ?_ ?_ (Nat.lt_succ_self _)⟩
          · exact rσ50
          · exact fσ50
          · first | exact ⟨by omega, by omega, by rw [hs9]; exact Fr.rf⟩ | exact ⟨by omega, by omega, Fr.aI g (Fr.aI g k3 (by decide)) (by decide)⟩
        · rename_i hc105
          skip
          unfold w_X16_job_108
          try simp only [forall_eq, rII, rIJ, rIP, rJJ, rJI, rJP, rPP, rPI, rPJ, g1, g2, g3, g4, g5, g6, g7, g8, Nat.reduceEqDiff, Nat.reduceAdd, false_and, and_false, true_and, and_true, reduceIte, nZ0, nZ1, hdm, hmd, hdj, hjd, cnJ, cnw, PsIJe, psw, cn19, PsI19e, cnd, psd, sτ90_32.1, sτ90_32.2]
          rw [if_neg hc95]
          unfold w_X16_job_116
          try simp only [forall_eq, rII, rIJ, rIP, rJJ, rJI, rJP, rPP, rPI, rPJ, g1, g2, g3, g4, g5, g6, g7, g8, Nat.reduceEqDiff, Nat.reduceAdd, false_and, and_false, true_and, and_true, reduceIte, nZ0, nZ1, hdm, hmd, hdj, hjd, cnJ, cnw, PsIJe, psw, cn19, PsI19e, cnd, psd, sτ90_32.1, sτ90_32.2]
          refine s_X16_fail g rτ90 (by omega) (fun σ54 r55 rσ54 fc p10 => ?_)
          have fσ54 : Fj ra jx rm [15, 16, 22, 25, 40, 41, 42, 43, 44, 45, 46, 47, 48, 49, 54, 55, 56, 57, 58, 65, 75, 76, 77, 78, 86, 87, 88, 89, 98] [0, 3, 4, 5, 6, 7, 8, 9, 10, 11, 12, 13, 19, 27, 30, 31, 36, 50, 66, 67, 79, 80, 90, 91, 92, 93, 94, 110, 111, 112] [2, 3, 4, 5, 6, 7, 8, 9, 10, 11, 12, 13, 14, 15, 16, 18, 99] σ σ54 := Fj.tr fτ90 (Fj.mor (fc.j) (by decide) (by decide) (by decide))
          have cσ54_0 := fc.2.1 0 (by decide)
          have cσ54_3 := fc.2.1 3 (by decide)
          have cσ54_6 := fc.2.1 6 (by decide)
          have cσ54_8 := fc.2.1 8 (by decide)
          have cσ54_9 := fc.2.1 9 (by decide)
          have cσ54_30 := fc.2.1 30 (by decide)
          have cσ54_31 := fc.2.1 31 (by decide)
          have cσ54_36 := fc.2.1 36 (by decide)
          have cσ54_50 := fc.2.1 50 (by decide)
          have dσ54_45 := fc.1 45 (by decide)
          have dσ54_54 := fc.1 54 (by decide)
          have dσ54_98 := fc.1 98 (by decide)
          have oσ54 := Fr.ob fc hda (by decide)
          have fa9 : FaI ra jx rm da σ σ54 := FaI.fr fa9 hda fc (by decide)
          have sσ54_32 := fσ54.2.1 32 (by decide)
          try simp only [rII, rIJ, rIP, rJJ, rJI, rJP, rPP, rPI, rPJ, g1, g2, g3, g4, g5, g6, g7, g8, Nat.reduceEqDiff, Nat.reduceAdd, false_and, and_false, true_and, and_true, reduceIte, nZ0, nZ1, hdm, hmd, hdj, hjd, cnJ, cnw, PsIJe, psw, cn19, PsI19e, cnd, psd, sσ54_32.1, sσ54_32.2, cσ54_0.1, cσ54_0.2, cσ54_3.1, cσ54_3.2, cσ54_6.1, cσ54_6.2, cσ54_8.1, cσ54_8.2, cσ54_9.1, cσ54_9.2, cσ54_30.1, cσ54_30.2, cσ54_31.1, cσ54_31.2, cσ54_36.1, cσ54_36.2, cσ54_50.1, cσ54_50.2, dσ54_45.1, dσ54_45.2, dσ54_54.1, dσ54_54.2, dσ54_98.1, dσ54_98.2, oσ54] at p10
          try simp only [forall_eq, rII, rIJ, rIP, rJJ, rJI, rJP, rPP, rPI, rPJ, g1, g2, g3, g4, g5, g6, g7, g8, Nat.reduceEqDiff, Nat.reduceAdd, false_and, and_false, true_and, and_true, reduceIte, nZ0, nZ1, hdm, hmd, hdj, hjd, cnJ, cnw, PsIJe, psw, cn19, PsI19e, cnd, psd, sσ54_32.1, sσ54_32.2, cσ54_0.1, cσ54_0.2, cσ54_3.1, cσ54_3.2, cσ54_6.1, cσ54_6.2, cσ54_8.1, cσ54_8.2, cσ54_9.1, cσ54_9.2, cσ54_30.1, cσ54_30.2, cσ54_31.1, cσ54_31.2, cσ54_36.1, cσ54_36.2, cσ54_50.1, cσ54_50.2, dσ54_45.1, dσ54_45.2, dσ54_54.1, dσ54_54.2, dσ54_98.1, dσ54_98.2, oσ54]
          refine ⟨by first | assumption | simp, ?_⟩
          refine hxJ _ _ ?_ ?_ ?_
          · exact rσ54
          · exact fσ54
          · exact ⟨rfl, fa9⟩
  refine ⟨_, L90 _ _ ?_ ?_ ?_ (Nat.lt_succ_self _)⟩
  · exact rσ45
  · exact fσ45
  · exact ⟨⟨ps9, by omega⟩, ⟨by omega, by omega, by omega⟩, dr9, hd9, fa9⟩

/-- where job begins to read -/
def jb0 (rm : Nat) (σ : Sg) : Sg := pI (pI (pI (pI (pI σ rm 6 (gI σ rm 3)) rm 3 0) rm 0 0) rm 7 0) rm 8 0
theorem s_X16_job {ra : Nat → Nat} {jx : Nat → Nat → Nat} {rm : Nat} (g : Geo ra jx rm) {σ : Sg} (rσ : Rg ra jx rm σ) {Q : Sg → Int → Prop} {X : Sg → String → Prop}
    (hQ : ∀ (σ' : Sg) (r : Int), Rg ra jx rm σ' → ((gI σ rm 32 ≠ 0 ∧ σ' = pI (pI (pI σ rm 6 (gI σ rm 3)) rm 3 0) rm 0 1) ∨
      (gI σ rm 32 = 0 ∧ ∃ da, (da = ra 15 ∨ da = ra 16) ∧ gP σ rm 17 ≠ some da ∧ ((FaI ra jx rm da (jb0 rm σ) σ' ∧ r < 0) ∨ ((HeE ra rm σ' ∧ RecI ra rm σ' (fun a => if 0 ≤ a ∧ a < 4000 then 64 else -1) (fun a => 4000 - 1 - a) ∧ ThE ra rm σ' ∧ gI σ' rm 36 = 0 ∧ gI σ' rm 50 = 0 ∧ gI σ' rm 30 = 0 ∧ gI σ' rm 31 = 0 ∧ gI σ' (ra 98) 0 = 0 ∧ gI σ' (ra 98) 1 = 0 ∧ (∀ i : Nat, (i : Int) < 1100 → gI σ' (ra 54) i = 0) ∧ (∀ i : Nat, (i : Int) < 64 → gI σ' (ra 45) i = -1)) ∧ gP σ' rm 17 = some da ∧ JobOK jx da σ' ∧ (gI σ' rm 32 = gI (jb0 rm σ) rm 32 ∧ gI σ' rm 3 = gI (jb0 rm σ) rm 3))))) → Q σ' r) : wp_X16_job ra jx rm σ Q X := by
  obtain ⟨g1, g2, g3, g4, g5, g6, g7, g8⟩ := id g
  have q3 := rσ.2.1 3; simp only [rgS] at q3
  have r1 : Rg ra jx rm (pI (pI σ rm 6 (gI σ rm 3)) rm 3 0) := by
    refine Rg.sI g (Rg.sI g rσ ?_) ?_ <;> simp only [rgS] <;> omega
  unfold wp_X16_job w_X16_job_0
  simp only [forall_eq]
  split
  · rename_i h32
    have e32 : gI σ rm 32 = 0 := by
      have := h32; simp only [rII, true_and] at this
      rw [if_neg (by decide), if_neg (by decide)] at this; exact this
    unfold w_X16_job_25 w_X16_job_26
    simp only [forall_eq]
    have r2 : Rg ra jx rm (jb0 rm σ) := by
      unfold jb0
      refine Rg.sI g (Rg.sI g (Rg.sI g r1 ?_) ?_) ?_ <;> simp only [rgS] <;> omega
    have h7 : gI (jb0 rm σ) rm 7 = 0 := by unfold jb0; simp [rII]
    have h8 : gI (jb0 rm σ) rm 8 = 0 := by unfold jb0; simp [rII]
    split
    · unfold w_X16_job_38
      simp only [forall_eq]
      split
      · rename_i hg
        unfold w_X16_job_67
        exact s_X16_job_71 (σ := jb0 rm σ) (da := ra 15) g r2 (Or.inl rfl) h7 h8 (fun σ' r r' f p => hQ σ' r r' (Or.inr ⟨e32, ra 15, Or.inl rfl, hg, p⟩))
      · rename_i hg
        have hg2 : gP σ rm 17 = some (ra 15) := Classical.not_not.mp hg
        unfold w_X16_job_60
        exact s_X16_job_71 (σ := jb0 rm σ) (da := ra 16) g r2 (Or.inr rfl) h7 h8 (fun σ' r r' f p => hQ σ' r r' (Or.inr ⟨e32, ra 16, Or.inr rfl, by rw [hg2]; intro q; have := (g1 15 16).mp (Option.some.inj q); omega, p⟩))
    · rename_i h0
      exact absurd (by simp only [rII, true_and, if_true]; decide) h0
  · rename_i h32
    have e32 : gI σ rm 32 ≠ 0 := by
      intro q; apply h32; simp only [rII, true_and]; rw [if_neg (by decide), if_neg (by decide)]; exact q
    unfold w_X16_job_21 w_X16_job_26
    simp only [forall_eq]
    split
    · rename_i h0
      exact absurd h0 (by simp only [rII, true_and, if_true]; decide)
    · unfold w_X16_job_36
      exact hQ _ _ (Rg.sI g r1 (by simp only [rgS]; omega)) (Or.inl ⟨e32, rfl⟩)

set_option maxHeartbeats 2000000 in
theorem s2_X16_isOutput {ra : Nat → Nat} {jx : Nat → Nat → Nat} {rm : Nat} {ja : Nat} (g : Geo ra jx rm) {σ : Sg} {v1 : Int} (rσ : Rg ra jx rm σ) (hj : gP σ rm 17 = none ∨ gP σ rm 17 = some ja) (hja : ja = ra 15 ∨ ja = ra 16) (hjo : gP σ rm 17 = some ja → JobOK jx ja σ) (b1 : -2147483648 ≤ v1 ∧ v1 ≤ 2147483647) {Q : Sg → Int → Prop} {X : Sg → String → Prop} (hQ : ∀ (r : Int), ((r = 0 ∨ r = 1) ∧ (r = 1 → (0 ≤ v1 ∧ v1 < 4 ∧ v1 < gI σ ja 1) ∧ gP σ rm 17 = some ja)) → Q σ r) : wp_X16_isOutput ra jx rm v1 σ Q X := by
  obtain ⟨g1, g2, g3, g4, g5, g6, g7, g8⟩ := id g
  have fσ : Fr ra jx rm [] [] σ σ := Fr.rf
  unfold wp_X16_isOutput
  unfold w_X16_isOutput_0
  try simp only [forall_eq, rII, rIJ, rIP, rJJ, rJI, rJP, rPP, rPI, rPJ, g1, g2, g3, g4, g5, g6, g7, g8, Nat.reduceEqDiff, Nat.reduceAdd, false_and, and_false, true_and, and_true, reduceIte, nZ0, nZ1]
  split
  · rename_i hc4
    skip
    unfold w_X16_isOutput_30
    try simp only [forall_eq, rII, rIJ, rIP, rJJ, rJI, rJP, rPP, rPI, rPJ, g1, g2, g3, g4, g5, g6, g7, g8, Nat.reduceEqDiff, Nat.reduceAdd, false_and, and_false, true_and, and_true, reduceIte, nZ0, nZ1]
    unfold w_X16_isOutput_31
    try simp only [forall_eq, rII, rIJ, rIP, rJJ, rJI, rJP, rPP, rPI, rPJ, g1, g2, g3, g4, g5, g6, g7, g8, Nat.reduceEqDiff, Nat.reduceAdd, false_and, and_false, true_and, and_true, reduceIte, nZ0, nZ1]
    refine ⟨by (first | omega | with_reducible assumption | (unfold rng; omega) | (unfold rng; (repeat' split) <;> omega) | grind), ?_⟩
    refine hQ _ ?_
    · (try simp only [rII, rIJ, rIP, rJJ, rJI, rJP, rPP, rPI, rPJ, g1, g2, g3, g4, g5, g6, g7, g8, Nat.reduceEqDiff, Nat.reduceAdd, false_and, and_false, true_and, and_true, reduceIte, nZ0, nZ1]) <;> (first | omega | with_reducible assumption | (unfold rng; omega) | (unfold rng; (repeat' split) <;> omega) | grind)
  · rename_i hc4
    have hjj := hj.resolve_left hc4
    have hJJ := (hjo hjj).1
    have hJ1 := (hjo hjj).2.1
    have hn : 0 ≤ gI σ ja 0 ∧ gI σ ja 0 ≤ 16 := ⟨by omega, by omega⟩
    have hno : 0 ≤ gI σ ja 1 ∧ gI σ ja 1 ≤ 4 := ⟨by omega, by omega⟩
    skip
    unfold w_X16_isOutput_7
    try simp only [forall_eq, rII, rIJ, rIP, rJJ, rJI, rJP, rPP, rPI, rPJ, g1, g2, g3, g4, g5, g6, g7, g8, Nat.reduceEqDiff, Nat.reduceAdd, false_and, and_false, true_and, and_true, reduceIte, nZ0, nZ1]
    refine ⟨ja, by exact hj.resolve_left (by assumption), hja, ?_⟩
    refine ⟨by (first | omega | with_reducible assumption | (unfold rng; omega) | (unfold rng; (repeat' split) <;> omega) | grind), ?_⟩
    refine s_X16_within g rσ (fun r9 p2 => ?_)
    obtain ⟨p2, p2b⟩ := p2
    have p2w : r9 = 1 → 0 ≤ v1 ∧ v1 ≤ ((gI σ ja 1) - 1) := fun e => win2 (by (first | omega | with_reducible assumption | (unfold rng; omega) | (unfold rng; (repeat' split) <;> omega) | grind)) (by (first | omega | with_reducible assumption | (unfold rng; omega) | (unfold rng; (repeat' split) <;> omega) | grind)) (by (first | omega | with_reducible assumption | (unfold rng; omega) | (unfold rng; (repeat' split) <;> omega) | grind)) (p2b e)
    try simp only [forall_eq, rII, rIJ, rIP, rJJ, rJI, rJP, rPP, rPI, rPJ, g1, g2, g3, g4, g5, g6, g7, g8, Nat.reduceEqDiff, Nat.reduceAdd, false_and, and_false, true_and, and_true, reduceIte, nZ0, nZ1]
    split
    · rename_i hc23
      skip
      unfold w_X16_isOutput_30
      try simp only [forall_eq, rII, rIJ, rIP, rJJ, rJI, rJP, rPP, rPI, rPJ, g1, g2, g3, g4, g5, g6, g7, g8, Nat.reduceEqDiff, Nat.reduceAdd, false_and, and_false, true_and, and_true, reduceIte, nZ0, nZ1]
      unfold w_X16_isOutput_31
      try simp only [forall_eq, rII, rIJ, rIP, rJJ, rJI, rJP, rPP, rPI, rPJ, g1, g2, g3, g4, g5, g6, g7, g8, Nat.reduceEqDiff, Nat.reduceAdd, false_and, and_false, true_and, and_true, reduceIte, nZ0, nZ1]
      refine ⟨by (first | omega | with_reducible assumption | (unfold rng; omega) | (unfold rng; (repeat' split) <;> omega) | grind), ?_⟩
      refine hQ _ ?_
      · (try simp only [rII, rIJ, rIP, rJJ, rJI, rJP, rPP, rPI, rPJ, g1, g2, g3, g4, g5, g6, g7, g8, Nat.reduceEqDiff, Nat.reduceAdd, false_and, and_false, true_and, and_true, reduceIte, nZ0, nZ1]) <;> (first | omega | with_reducible assumption | (unfold rng; omega) | (unfold rng; (repeat' split) <;> omega) | grind)
    · rename_i hc23
      skip
      unfold w_X16_isOutput_26
      try simp only [forall_eq, rII, rIJ, rIP, rJJ, rJI, rJP, rPP, rPI, rPJ, g1, g2, g3, g4, g5, g6, g7, g8, Nat.reduceEqDiff, Nat.reduceAdd, false_and, and_false, true_and, and_true, reduceIte, nZ0, nZ1]
      unfold w_X16_isOutput_31
      try simp only [forall_eq, rII, rIJ, rIP, rJJ, rJI, rJP, rPP, rPI, rPJ, g1, g2, g3, g4, g5, g6, g7, g8, Nat.reduceEqDiff, Nat.reduceAdd, false_and, and_false, true_and, and_true, reduceIte, nZ0, nZ1]
      refine ⟨by (first | omega | with_reducible assumption | (unfold rng; omega) | (unfold rng; (repeat' split) <;> omega) | grind), ?_⟩
      refine hQ _ ?_
      · (try simp only [rII, rIJ, rIP, rJJ, rJI, rJP, rPP, rPI, rPJ, g1, g2, g3, g4, g5, g6, g7, g8, Nat.reduceEqDiff, Nat.reduceAdd, false_and, and_false, true_and, and_true, reduceIte, nZ0, nZ1]) <;> (first | omega | with_reducible assumption | (unfold rng; omega) | (unfold rng; (repeat' split) <;> omega) | grind)
set_option maxHeartbeats 2000000 in
theorem s2_X16_operator_ {ra : Nat → Nat} {jx : Nat → Nat → Nat} {rm : Nat} {ja : Nat} (g : Geo ra jx rm) {σ : Sg} {v1 : Int} {v2 : Int} (rσ : Rg ra jx rm σ) (hj : gP σ rm 17 = none ∨ gP σ rm 17 = some ja) (hja : ja = ra 15 ∨ ja = ra 16) (hjo : gP σ rm 17 = some ja → JobOK jx ja σ) (b1 : -2147483648 ≤ v1 ∧ v1 ≤ 2147483647) (b2 : -2147483648 ≤ v2 ∧ v2 ≤ 2147483647) {Q : Sg → Int64 → Prop} {X : Sg → String → Prop} (hQ : ∀ (σ' : Sg) (r : Int64), Rg ra jx rm σ' → Fr ra jx rm [] [0] σ σ' → (True) → Q σ' r) : wp_X16_operator_ ra jx rm v1 v2 σ Q X := by
  obtain ⟨g1, g2, g3, g4, g5, g6, g7, g8⟩ := id g
  have fσ : Fr ra jx rm [] [0] σ σ := Fr.rf
  unfold wp_X16_operator_
  unfold w_X16_operator__0
  try simp only [forall_eq, rII, rIJ, rIP, rJJ, rJI, rJP, rPP, rPI, rPJ, g1, g2, g3, g4, g5, g6, g7, g8, Nat.reduceEqDiff, Nat.reduceAdd, false_and, and_false, true_and, and_true, reduceIte, nZ0, nZ1]
  split
  · rename_i hc5
    skip
    unfold w_X16_operator__27
    try simp only [forall_eq, rII, rIJ, rIP, rJJ, rJI, rJP, rPP, rPI, rPJ, g1, g2, g3, g4, g5, g6, g7, g8, Nat.reduceEqDiff, Nat.reduceAdd, false_and, and_false, true_and, and_true, reduceIte, nZ0, nZ1]
    unfold w_X16_operator__48
    try simp only [forall_eq, rII, rIJ, rIP, rJJ, rJI, rJP, rPP, rPI, rPJ, g1, g2, g3, g4, g5, g6, g7, g8, Nat.reduceEqDiff, Nat.reduceAdd, false_and, and_false, true_and, and_true, reduceIte, nZ0, nZ1]
    try rw [if_neg (by decide)]
    unfold w_X16_operator__58
    try simp only [forall_eq, rII, rIJ, rIP, rJJ, rJI, rJP, rPP, rPI, rPJ, g1, g2, g3, g4, g5, g6, g7, g8, Nat.reduceEqDiff, Nat.reduceAdd, false_and, and_false, true_and, and_true, reduceIte, nZ0, nZ1]
    refine hQ _ _ ?_ ?_ ?_
    · refine Rg.sI g ?_ (by simp only [rgS]; first | with_reducible exact nZ_rng _ | with_reducible exact nB_rng _ | with_reducible exact wr_rng _ | with_reducible exact i32any _ | (first | omega | with_reducible assumption | (unfold rng; omega) | (unfold rng; (repeat' split) <;> omega) | grind)); exact rσ
    · refine Fr.sI g ?_ (by decide); exact fσ
    · exact trivial
  · rename_i hc5
    have hjj := hj.resolve_left hc5
    have hJJ := (hjo hjj).1
    have hJ1 := (hjo hjj).2.1
    have hn : 0 ≤ gI σ ja 0 ∧ gI σ ja 0 ≤ 16 := ⟨by omega, by omega⟩
    have hno : 0 ≤ gI σ ja 1 ∧ gI σ ja 1 ≤ 4 := ⟨by omega, by omega⟩
    skip
    unfold w_X16_operator__8
    try simp only [forall_eq, rII, rIJ, rIP, rJJ, rJI, rJP, rPP, rPI, rPJ, g1, g2, g3, g4, g5, g6, g7, g8, Nat.reduceEqDiff, Nat.reduceAdd, false_and, and_false, true_and, and_true, reduceIte, nZ0, nZ1]
    refine ⟨ja, by exact hj.resolve_left (by assumption), hja, ?_⟩
    refine ⟨by (first | omega | with_reducible assumption | (unfold rng; omega) | (unfold rng; (repeat' split) <;> omega) | grind), ?_⟩
    refine s_X16_within g rσ (fun r28 p2 => ?_)
    obtain ⟨p2, p2b⟩ := p2
    have p2w : r28 = 1 → 0 ≤ v1 ∧ v1 ≤ ((gI σ ja 0) - 1) := fun e => win2 (by (first | omega | with_reducible assumption | (unfold rng; omega) | (unfold rng; (repeat' split) <;> omega) | grind)) (by (first | omega | with_reducible assumption | (unfold rng; omega) | (unfold rng; (repeat' split) <;> omega) | grind)) (by (first | omega | with_reducible assumption | (unfold rng; omega) | (unfold rng; (repeat' split) <;> omega) | grind)) (p2b e)
    try simp only [forall_eq, rII, rIJ, rIP, rJJ, rJI, rJP, rPP, rPI, rPJ, g1, g2, g3, g4, g5, g6, g7, g8, Nat.reduceEqDiff, Nat.reduceAdd, false_and, and_false, true_and, and_true, reduceIte, nZ0, nZ1]
    split
    · rename_i hc24
      skip
      unfold w_X16_operator__31
      try simp only [forall_eq, rII, rIJ, rIP, rJJ, rJI, rJP, rPP, rPI, rPJ, g1, g2, g3, g4, g5, g6, g7, g8, Nat.reduceEqDiff, Nat.reduceAdd, false_and, and_false, true_and, and_true, reduceIte, nZ0, nZ1]
      refine s_X16_within g rσ (fun r30 p3 => ?_)
      obtain ⟨p3, p3b⟩ := p3
      have p3w : r30 = 1 → 0 ≤ v2 ∧ v2 ≤ 11 := fun e => win (by (first | omega | with_reducible assumption | (unfold rng; omega) | (unfold rng; (repeat' split) <;> omega) | grind)) (p3b e)
      try simp only [forall_eq, rII, rIJ, rIP, rJJ, rJI, rJP, rPP, rPI, rPJ, g1, g2, g3, g4, g5, g6, g7, g8, Nat.reduceEqDiff, Nat.reduceAdd, false_and, and_false, true_and, and_true, reduceIte, nZ0, nZ1]
      split
      · rename_i hc40
        skip
        unfold w_X16_operator__47
        try simp only [forall_eq, rII, rIJ, rIP, rJJ, rJI, rJP, rPP, rPI, rPJ, g1, g2, g3, g4, g5, g6, g7, g8, Nat.reduceEqDiff, Nat.reduceAdd, false_and, and_false, true_and, and_true, reduceIte, nZ0, nZ1]
        unfold w_X16_operator__48
        try simp only [forall_eq, rII, rIJ, rIP, rJJ, rJI, rJP, rPP, rPI, rPJ, g1, g2, g3, g4, g5, g6, g7, g8, Nat.reduceEqDiff, Nat.reduceAdd, false_and, and_false, true_and, and_true, reduceIte, nZ0, nZ1]
        try rw [if_pos (by decide)]
        unfold w_X16_operator__60
        try simp only [forall_eq, rII, rIJ, rIP, rJJ, rJI, rJP, rPP, rPI, rPJ, g1, g2, g3, g4, g5, g6, g7, g8, Nat.reduceEqDiff, Nat.reduceAdd, false_and, and_false, true_and, and_true, reduceIte, nZ0, nZ1]
        split
        · rename_i hc61
          skip
          unfold w_X16_operator__77
          try simp only [forall_eq, rII, rIJ, rIP, rJJ, rJI, rJP, rPP, rPI, rPJ, g1, g2, g3, g4, g5, g6, g7, g8, Nat.reduceEqDiff, Nat.reduceAdd, false_and, and_false, true_and, and_true, reduceIte, nZ0, nZ1]
          split
          · rename_i hc79
            skip
            unfold w_X16_operator__95
            try simp only [forall_eq, rII, rIJ, rIP, rJJ, rJI, rJP, rPP, rPI, rPJ, g1, g2, g3, g4, g5, g6, g7, g8, Nat.reduceEqDiff, Nat.reduceAdd, false_and, and_false, true_and, and_true, reduceIte, nZ0, nZ1]
            split
            · rename_i hc97
              skip
              unfold w_X16_operator__113
              try simp only [forall_eq, rII, rIJ, rIP, rJJ, rJI, rJP, rPP, rPI, rPJ, g1, g2, g3, g4, g5, g6, g7, g8, Nat.reduceEqDiff, Nat.reduceAdd, false_and, and_false, true_and, and_true, reduceIte, nZ0, nZ1]
              split
              · rename_i hc115
                skip
                unfold w_X16_operator__131
                try simp only [forall_eq, rII, rIJ, rIP, rJJ, rJI, rJP, rPP, rPI, rPJ, g1, g2, g3, g4, g5, g6, g7, g8, Nat.reduceEqDiff, Nat.reduceAdd, false_and, and_false, true_and, and_true, reduceIte, nZ0, nZ1]
                refine ⟨by (first | omega | with_reducible assumption | (unfold rng; omega) | (unfold rng; (repeat' split) <;> omega) | grind), ?_⟩
                refine ⟨ja, by exact hj.resolve_left (by assumption), hja, ?_⟩
                refine ⟨by (first | omega | with_reducible assumption | (unfold rng; omega) | (unfold rng; (repeat' split) <;> omega) | grind), ?_⟩
                have q4 := rσ.2.2.1 ja 6 (v1.toNat); simp only [rgJ] at q4
                split
                · rename_i hc143
                  skip
                  unfold w_X16_operator__165
                  try simp only [forall_eq, rII, rIJ, rIP, rJJ, rJI, rJP, rPP, rPI, rPJ, g1, g2, g3, g4, g5, g6, g7, g8, Nat.reduceEqDiff, Nat.reduceAdd, false_and, and_false, true_and, and_true, reduceIte, nZ0, nZ1]
                  unfold w_X16_operator__166
                  try simp only [forall_eq, rII, rIJ, rIP, rJJ, rJI, rJP, rPP, rPI, rPJ, g1, g2, g3, g4, g5, g6, g7, g8, Nat.reduceEqDiff, Nat.reduceAdd, false_and, and_false, true_and, and_true, reduceIte, nZ0, nZ1]
                  refine hQ _ _ ?_ ?_ ?_
                  · refine Rg.sI g ?_ (by simp only [rgS]; first | with_reducible exact nZ_rng _ | with_reducible exact nB_rng _ | with_reducible exact wr_rng _ | with_reducible exact i32any _ | (first | omega | with_reducible assumption | (unfold rng; omega) | (unfold rng; (repeat' split) <;> omega) | grind)); exact rσ
                  · refine Fr.sI g ?_ (by decide); exact fσ
                  · exact trivial
                · rename_i hc143
                  skip
                  unfold w_X16_operator__146
                  try simp only [forall_eq, rII, rIJ, rIP, rJJ, rJI, rJP, rPP, rPI, rPJ, g1, g2, g3, g4, g5, g6, g7, g8, Nat.reduceEqDiff, Nat.reduceAdd, false_and, and_false, true_and, and_true, reduceIte, nZ0, nZ1]
                  refine ⟨ja, by exact hj.resolve_left (by assumption), hja, ?_⟩
                  refine ⟨by (first | omega | with_reducible assumption | (unfold rng; omega) | (unfold rng; (repeat' split) <;> omega) | grind), ?_⟩
                  refine ⟨by (first | omega | with_reducible assumption | (unfold rng; omega) | (unfold rng; (repeat' split) <;> omega) | grind), ?_⟩
                  refine ⟨by (first | omega | with_reducible assumption | (unfold rng; omega) | (unfold rng; (repeat' split) <;> omega) | grind), ?_⟩
                  refine ⟨by (first | omega | with_reducible assumption | (unfold rng; omega) | (unfold rng; (repeat' split) <;> omega) | grind), ?_⟩
                  unfold w_X16_operator__166
                  try simp only [forall_eq, rII, rIJ, rIP, rJJ, rJI, rJP, rPP, rPI, rPJ, g1, g2, g3, g4, g5, g6, g7, g8, Nat.reduceEqDiff, Nat.reduceAdd, false_and, and_false, true_and, and_true, reduceIte, nZ0, nZ1]
                  refine hQ _ _ ?_ ?_ ?_
                  · refine Rg.sI g ?_ (by simp only [rgS]; first | with_reducible exact nZ_rng _ | with_reducible exact nB_rng _ | with_reducible exact wr_rng _ | with_reducible exact i32any _ | (first | omega | with_reducible assumption | (unfold rng; omega) | (unfold rng; (repeat' split) <;> omega) | grind)); exact rσ
                  · refine Fr.sI g ?_ (by decide); exact fσ
                  · exact trivial
              · rename_i hc115
                skip
                unfold w_X16_operator__118
                try simp only [forall_eq, rII, rIJ, rIP, rJJ, rJI, rJP, rPP, rPI, rPJ, g1, g2, g3, g4, g5, g6, g7, g8, Nat.reduceEqDiff, Nat.reduceAdd, false_and, and_false, true_and, and_true, reduceIte, nZ0, nZ1]
                refine ⟨ja, by exact hj.resolve_left (by assumption), hja, ?_⟩
                refine ⟨by (first | omega | with_reducible assumption | (unfold rng; omega) | (unfold rng; (repeat' split) <;> omega) | grind), ?_⟩
                unfold w_X16_operator__166
                try simp only [forall_eq, rII, rIJ, rIP, rJJ, rJI, rJP, rPP, rPI, rPJ, g1, g2, g3, g4, g5, g6, g7, g8, Nat.reduceEqDiff, Nat.reduceAdd, false_and, and_false, true_and, and_true, reduceIte, nZ0, nZ1]
                refine hQ _ _ ?_ ?_ ?_
                · refine Rg.sI g ?_ (by simp only [rgS]; first | with_reducible exact nZ_rng _ | with_reducible exact nB_rng _ | with_reducible exact wr_rng _ | with_reducible exact i32any _ | (first | omega | with_reducible assumption | (unfold rng; omega) | (unfold rng; (repeat' split) <;> omega) | grind)); exact rσ
                · refine Fr.sI g ?_ (by decide); exact fσ
                · exact trivial
            · rename_i hc97
              skip
              unfold w_X16_operator__100
              try simp only [forall_eq, rII, rIJ, rIP, rJJ, rJI, rJP, rPP, rPI, rPJ, g1, g2, g3, g4, g5, g6, g7, g8, Nat.reduceEqDiff, Nat.reduceAdd, false_and, and_false, true_and, and_true, reduceIte, nZ0, nZ1]
              refine ⟨ja, by exact hj.resolve_left (by assumption), hja, ?_⟩
              refine ⟨by (first | omega | with_reducible assumption | (unfold rng; omega) | (unfold rng; (repeat' split) <;> omega) | grind), ?_⟩
              unfold w_X16_operator__166
              try simp only [forall_eq, rII, rIJ, rIP, rJJ, rJI, rJP, rPP, rPI, rPJ, g1, g2, g3, g4, g5, g6, g7, g8, Nat.reduceEqDiff, Nat.reduceAdd, false_and, and_false, true_and, and_true, reduceIte, nZ0, nZ1]
              refine hQ _ _ ?_ ?_ ?_
              · refine Rg.sI g ?_ (by simp only [rgS]; first | with_reducible exact nZ_rng _ | with_reducible exact nB_rng _ | with_reducible exact wr_rng _ | with_reducible exact i32any _ | (first | omega | with_reducible assumption | (unfold rng; omega) | (unfold rng; (repeat' split) <;> omega) | grind)); exact rσ
              · refine Fr.sI g ?_ (by decide); exact fσ
              · exact trivial
          · rename_i hc79
            skip
            unfold w_X16_operator__82
            try simp only [forall_eq, rII, rIJ, rIP, rJJ, rJI, rJP, rPP, rPI, rPJ, g1, g2, g3, g4, g5, g6, g7, g8, Nat.reduceEqDiff, Nat.reduceAdd, false_and, and_false, true_and, and_true, reduceIte, nZ0, nZ1]
            refine ⟨ja, by exact hj.resolve_left (by assumption), hja, ?_⟩
            refine ⟨by (first | omega | with_reducible assumption | (unfold rng; omega) | (unfold rng; (repeat' split) <;> omega) | grind), ?_⟩
            unfold w_X16_operator__166
            try simp only [forall_eq, rII, rIJ, rIP, rJJ, rJI, rJP, rPP, rPI, rPJ, g1, g2, g3, g4, g5, g6, g7, g8, Nat.reduceEqDiff, Nat.reduceAdd, false_and, and_false, true_and, and_true, reduceIte, nZ0, nZ1]
            refine hQ _ _ ?_ ?_ ?_
            · refine Rg.sI g ?_ (by simp only [rgS]; first | with_reducible exact nZ_rng _ | with_reducible exact nB_rng _ | with_reducible exact wr_rng _ | with_reducible exact i32any _ | (first | omega | with_reducible assumption | (unfold rng; omega) | (unfold rng; (repeat' split) <;> omega) | grind)); exact rσ
            · refine Fr.sI g ?_ (by decide); exact fσ
            · exact trivial
        · rename_i hc61
          skip
          unfold w_X16_operator__64
          try simp only [forall_eq, rII, rIJ, rIP, rJJ, rJI, rJP, rPP, rPI, rPJ, g1, g2, g3, g4, g5, g6, g7, g8, Nat.reduceEqDiff, Nat.reduceAdd, false_and, and_false, true_and, and_true, reduceIte, nZ0, nZ1]
          refine ⟨ja, by exact hj.resolve_left (by assumption), hja, ?_⟩
          refine ⟨by (first | omega | with_reducible assumption | (unfold rng; omega) | (unfold rng; (repeat' split) <;> omega) | grind), ?_⟩
          unfold w_X16_operator__166
          try simp only [forall_eq, rII, rIJ, rIP, rJJ, rJI, rJP, rPP, rPI, rPJ, g1, g2, g3, g4, g5, g6, g7, g8, Nat.reduceEqDiff, Nat.reduceAdd, false_and, and_false, true_and, and_true, reduceIte, nZ0, nZ1]
          refine hQ _ _ ?_ ?_ ?_
          · refine Rg.sI g ?_ (by simp only [rgS]; first | with_reducible exact nZ_rng _ | with_reducible exact nB_rng _ | with_reducible exact wr_rng _ | with_reducible exact i32any _ | (first | omega | with_reducible assumption | (unfold rng; omega) | (unfold rng; (repeat' split) <;> omega) | grind)); exact rσ
          · refine Fr.sI g ?_ (by decide); exact fσ
          · exact trivial
      · rename_i hc40
        skip
        unfold w_X16_operator__43
        try simp only [forall_eq, rII, rIJ, rIP, rJJ, rJI, rJP, rPP, rPI, rPJ, g1, g2, g3, g4, g5, g6, g7, g8, Nat.reduceEqDiff, Nat.reduceAdd, false_and, and_false, true_and, and_true, reduceIte, nZ0, nZ1]
        unfold w_X16_operator__48
        try simp only [forall_eq, rII, rIJ, rIP, rJJ, rJI, rJP, rPP, rPI, rPJ, g1, g2, g3, g4, g5, g6, g7, g8, Nat.reduceEqDiff, Nat.reduceAdd, false_and, and_false, true_and, and_true, reduceIte, nZ0, nZ1]
        try rw [if_neg (by decide)]
        unfold w_X16_operator__58
        try simp only [forall_eq, rII, rIJ, rIP, rJJ, rJI, rJP, rPP, rPI, rPJ, g1, g2, g3, g4, g5, g6, g7, g8, Nat.reduceEqDiff, Nat.reduceAdd, false_and, and_false, true_and, and_true, reduceIte, nZ0, nZ1]
        refine hQ _ _ ?_ ?_ ?_
        · refine Rg.sI g ?_ (by simp only [rgS]; first | with_reducible exact nZ_rng _ | with_reducible exact nB_rng _ | with_reducible exact wr_rng _ | with_reducible exact i32any _ | (first | omega | with_reducible assumption | (unfold rng; omega) | (unfold rng; (repeat' split) <;> omega) | grind)); exact rσ
        · refine Fr.sI g ?_ (by decide); exact fσ
        · exact trivial
    · rename_i hc24
      skip
      unfold w_X16_operator__27
      try simp only [forall_eq, rII, rIJ, rIP, rJJ, rJI, rJP, rPP, rPI, rPJ, g1, g2, g3, g4, g5, g6, g7, g8, Nat.reduceEqDiff, Nat.reduceAdd, false_and, and_false, true_and, and_true, reduceIte, nZ0, nZ1]
      unfold w_X16_operator__48
      try simp only [forall_eq, rII, rIJ, rIP, rJJ, rJI, rJP, rPP, rPI, rPJ, g1, g2, g3, g4, g5, g6, g7, g8, Nat.reduceEqDiff, Nat.reduceAdd, false_and, and_false, true_and, and_true, reduceIte, nZ0, nZ1]
      try rw [if_neg (by decide)]
      unfold w_X16_operator__58
      try simp only [forall_eq, rII, rIJ, rIP, rJJ, rJI, rJP, rPP, rPI, rPJ, g1, g2, g3, g4, g5, g6, g7, g8, Nat.reduceEqDiff, Nat.reduceAdd, false_and, and_false, true_and, and_true, reduceIte, nZ0, nZ1]
      refine hQ _ _ ?_ ?_ ?_
      · refine Rg.sI g ?_ (by simp only [rgS]; first | with_reducible exact nZ_rng _ | with_reducible exact nB_rng _ | with_reducible exact wr_rng _ | with_reducible exact i32any _ | (first | omega | with_reducible assumption | (unfold rng; omega) | (unfold rng; (repeat' split) <;> omega) | grind)); exact rσ
      · refine Fr.sI g ?_ (by decide); exact fσ
      · exact trivial
set_option maxHeartbeats 2000000 in
theorem s2_X16_visible {ra : Nat → Nat} {jx : Nat → Nat → Nat} {rm : Nat} {ja : Nat} (g : Geo ra jx rm) {σ : Sg} {v1 : Int} (rσ : Rg ra jx rm σ) (hj : gP σ rm 17 = none ∨ gP σ rm 17 = some ja) (hja : ja = ra 15 ∨ ja = ra 16) (hjo : gP σ rm 17 = some ja → JobOK jx ja σ) (b1 : -2147483648 ≤ v1 ∧ v1 ≤ 2147483647) {Q : Sg → Int → Prop} {X : Sg → String → Prop} (hQ : ∀ (σ' : Sg) (r : Int), Rg ra jx rm σ' → Fr ra jx rm [] [0] σ σ' → (True) → Q σ' r) : wp_X16_visible ra jx rm v1 σ Q X := by
  obtain ⟨g1, g2, g3, g4, g5, g6, g7, g8⟩ := id g
  have fσ : Fr ra jx rm [] [0] σ σ := Fr.rf
  unfold wp_X16_visible
  unfold w_X16_visible_0
  try simp only [forall_eq, rII, rIJ, rIP, rJJ, rJI, rJP, rPP, rPI, rPJ, g1, g2, g3, g4, g5, g6, g7, g8, Nat.reduceEqDiff, Nat.reduceAdd, false_and, and_false, true_and, and_true, reduceIte, nZ0, nZ1]
  refine s2_X16_isOutput g rσ (by exact hj) hja (by exact hjo) (by (try simp only [rII, rIJ, rIP, rJJ, rJI, rJP, rPP, rPI, rPJ, g1, g2, g3, g4, g5, g6, g7, g8, Nat.reduceEqDiff, Nat.reduceAdd, false_and, and_false, true_and, and_true, reduceIte, nZ0, nZ1]) <;> (first | omega | with_reducible assumption | (unfold rng; omega) | (unfold rng; (repeat' split) <;> omega) | grind)) (fun r8 p1 => ?_)
  try simp only [forall_eq, rII, rIJ, rIP, rJJ, rJI, rJP, rPP, rPI, rPJ, g1, g2, g3, g4, g5, g6, g7, g8, Nat.reduceEqDiff, Nat.reduceAdd, false_and, and_false, true_and, and_true, reduceIte, nZ0, nZ1]
  split
  · rename_i hc6
    skip
    unfold w_X16_visible_13
    try simp only [forall_eq, rII, rIJ, rIP, rJJ, rJI, rJP, rPP, rPI, rPJ, g1, g2, g3, g4, g5, g6, g7, g8, Nat.reduceEqDiff, Nat.reduceAdd, false_and, and_false, true_and, and_true, reduceIte, nZ0, nZ1]
    unfold w_X16_visible_14
    try simp only [forall_eq, rII, rIJ, rIP, rJJ, rJI, rJP, rPP, rPI, rPJ, g1, g2, g3, g4, g5, g6, g7, g8, Nat.reduceEqDiff, Nat.reduceAdd, false_and, and_false, true_and, and_true, reduceIte, nZ0, nZ1]
    try rw [if_neg (by decide)]
    unfold w_X16_visible_24
    try simp only [forall_eq, rII, rIJ, rIP, rJJ, rJI, rJP, rPP, rPI, rPJ, g1, g2, g3, g4, g5, g6, g7, g8, Nat.reduceEqDiff, Nat.reduceAdd, false_and, and_false, true_and, and_true, reduceIte, nZ0, nZ1]
    unfold w_X16_visible_38
    try simp only [forall_eq, rII, rIJ, rIP, rJJ, rJI, rJP, rPP, rPI, rPJ, g1, g2, g3, g4, g5, g6, g7, g8, Nat.reduceEqDiff, Nat.reduceAdd, false_and, and_false, true_and, and_true, reduceIte, nZ0, nZ1]
    refine hQ _ _ ?_ ?_ ?_
    · refine Rg.sI g ?_ (by simp only [rgS]; first | with_reducible exact nZ_rng _ | with_reducible exact nB_rng _ | with_reducible exact wr_rng _ | with_reducible exact i32any _ | (first | omega | with_reducible assumption | (unfold rng; omega) | (unfold rng; (repeat' split) <;> omega) | grind)); exact rσ
    · refine Fr.sI g ?_ (by decide); exact fσ
    · exact trivial
  · rename_i hc6
    skip
    unfold w_X16_visible_9
    try simp only [forall_eq, rII, rIJ, rIP, rJJ, rJI, rJP, rPP, rPI, rPJ, g1, g2, g3, g4, g5, g6, g7, g8, Nat.reduceEqDiff, Nat.reduceAdd, false_and, and_false, true_and, and_true, reduceIte, nZ0, nZ1]
    unfold w_X16_visible_14
    try simp only [forall_eq, rII, rIJ, rIP, rJJ, rJI, rJP, rPP, rPI, rPJ, g1, g2, g3, g4, g5, g6, g7, g8, Nat.reduceEqDiff, Nat.reduceAdd, false_and, and_false, true_and, and_true, reduceIte, nZ0, nZ1]
    try rw [if_pos (by decide)]
    unfold w_X16_visible_28
    try simp only [forall_eq, rII, rIJ, rIP, rJJ, rJI, rJP, rPP, rPI, rPJ, g1, g2, g3, g4, g5, g6, g7, g8, Nat.reduceEqDiff, Nat.reduceAdd, false_and, and_false, true_and, and_true, reduceIte, nZ0, nZ1]
    refine ⟨by (first | omega | with_reducible assumption | (unfold rng; omega) | (unfold rng; (repeat' split) <;> omega) | grind), ?_⟩
    refine ⟨by (first | omega | with_reducible assumption | (unfold rng; omega) | (unfold rng; (repeat' split) <;> omega) | grind), ?_⟩
    refine ⟨by (first | omega | with_reducible assumption | (unfold rng; omega) | (unfold rng; (repeat' split) <;> omega) | grind), ?_⟩
    unfold w_X16_visible_38
    try simp only [forall_eq, rII, rIJ, rIP, rJJ, rJI, rJP, rPP, rPI, rPJ, g1, g2, g3, g4, g5, g6, g7, g8, Nat.reduceEqDiff, Nat.reduceAdd, false_and, and_false, true_and, and_true, reduceIte, nZ0, nZ1]
    have q2 := rσ.1 89 (((3 * v1) + 2).toNat); simp only [rgT] at q2
    refine hQ _ _ ?_ ?_ ?_
    · refine Rg.sI g ?_ (by simp only [rgS]; first | with_reducible exact nZ_rng _ | with_reducible exact nB_rng _ | with_reducible exact wr_rng _ | with_reducible exact i32any _ | (first | omega | with_reducible assumption | (unfold rng; omega) | (unfold rng; (repeat' split) <;> omega) | grind)); exact rσ
    · refine Fr.sI g ?_ (by decide); exact fσ
    · exact trivial
set_option maxHeartbeats 2000000 in
theorem s2_X16_told {ra : Nat → Nat} {jx : Nat → Nat → Nat} {rm : Nat} {ja : Nat} (g : Geo ra jx rm) {σ : Sg} {v1 : Int} (rσ : Rg ra jx rm σ) (hj : gP σ rm 17 = none ∨ gP σ rm 17 = some ja) (hja : ja = ra 15 ∨ ja = ra 16) (hjo : gP σ rm 17 = some ja → JobOK jx ja σ) (b1 : -2147483648 ≤ v1 ∧ v1 ≤ 2147483647) {Q : Sg → Int → Prop} {X : Sg → String → Prop} (hQ : ∀ (σ' : Sg) (r : Int), Rg ra jx rm σ' → Fr ra jx rm [] [0] σ σ' → (True) → Q σ' r) : wp_X16_told ra jx rm v1 σ Q X := by
  obtain ⟨g1, g2, g3, g4, g5, g6, g7, g8⟩ := id g
  have fσ : Fr ra jx rm [] [0] σ σ := Fr.rf
  unfold wp_X16_told
  unfold w_X16_told_0
  try simp only [forall_eq, rII, rIJ, rIP, rJJ, rJI, rJP, rPP, rPI, rPJ, g1, g2, g3, g4, g5, g6, g7, g8, Nat.reduceEqDiff, Nat.reduceAdd, false_and, and_false, true_and, and_true, reduceIte, nZ0, nZ1]
  by_cases hc6_0 : v1 = 0
  · rw [if_pos hc6_0]
    unfold w_X16_told_80
    try simp only [forall_eq, rII, rIJ, rIP, rJJ, rJI, rJP, rPP, rPI, rPJ, g1, g2, g3, g4, g5, g6, g7, g8, Nat.reduceEqDiff, Nat.reduceAdd, false_and, and_false, true_and, and_true, reduceIte, nZ0, nZ1]
    split
    · rename_i hc84
      have hjj := hj.resolve_left hc84
      have hJJ := (hjo hjj).1
      have hJ1 := (hjo hjj).2.1
      have hn : 0 ≤ gI σ ja 0 ∧ gI σ ja 0 ≤ 16 := ⟨by omega, by omega⟩
      have hno : 0 ≤ gI σ ja 1 ∧ gI σ ja 1 ≤ 4 := ⟨by omega, by omega⟩
      skip
      unfold w_X16_told_91
      try simp only [forall_eq, rII, rIJ, rIP, rJJ, rJI, rJP, rPP, rPI, rPJ, g1, g2, g3, g4, g5, g6, g7, g8, Nat.reduceEqDiff, Nat.reduceAdd, false_and, and_false, true_and, and_true, reduceIte, nZ0, nZ1]
      refine ⟨ja, by exact hj.resolve_left (by assumption), hja, ?_⟩
      unfold w_X16_told_98
      try simp only [forall_eq, rII, rIJ, rIP, rJJ, rJI, rJP, rPP, rPI, rPJ, g1, g2, g3, g4, g5, g6, g7, g8, Nat.reduceEqDiff, Nat.reduceAdd, false_and, and_false, true_and, and_true, reduceIte, nZ0, nZ1]
      refine hQ _ _ ?_ ?_ ?_
      · refine Rg.sI g ?_ (by simp only [rgS]; first | with_reducible exact nZ_rng _ | with_reducible exact nB_rng _ | with_reducible exact wr_rng _ | with_reducible exact i32any _ | (first | omega | with_reducible assumption | (unfold rng; omega) | (unfold rng; (repeat' split) <;> omega) | grind)); exact rσ
      · refine Fr.sI g ?_ (by decide); exact fσ
      · exact trivial
    · rename_i hc84
      skip
      unfold w_X16_told_87
      try simp only [forall_eq, rII, rIJ, rIP, rJJ, rJI, rJP, rPP, rPI, rPJ, g1, g2, g3, g4, g5, g6, g7, g8, Nat.reduceEqDiff, Nat.reduceAdd, false_and, and_false, true_and, and_true, reduceIte, nZ0, nZ1]
      unfold w_X16_told_98
      try simp only [forall_eq, rII, rIJ, rIP, rJJ, rJI, rJP, rPP, rPI, rPJ, g1, g2, g3, g4, g5, g6, g7, g8, Nat.reduceEqDiff, Nat.reduceAdd, false_and, and_false, true_and, and_true, reduceIte, nZ0, nZ1]
      refine hQ _ _ ?_ ?_ ?_
      · refine Rg.sI g ?_ (by simp only [rgS]; first | with_reducible exact nZ_rng _ | with_reducible exact nB_rng _ | with_reducible exact wr_rng _ | with_reducible exact i32any _ | (first | omega | with_reducible assumption | (unfold rng; omega) | (unfold rng; (repeat' split) <;> omega) | grind)); exact rσ
      · refine Fr.sI g ?_ (by decide); exact fσ
      · exact trivial
  · rw [if_neg hc6_0]
    by_cases hc6_1 : v1 = 1
    · rw [if_pos hc6_1]
      unfold w_X16_told_99
      try simp only [forall_eq, rII, rIJ, rIP, rJJ, rJI, rJP, rPP, rPI, rPJ, g1, g2, g3, g4, g5, g6, g7, g8, Nat.reduceEqDiff, Nat.reduceAdd, false_and, and_false, true_and, and_true, reduceIte, nZ0, nZ1]
      have q2 := rσ.2.1 36; simp only [rgS] at q2
      refine hQ _ _ ?_ ?_ ?_
      · refine Rg.sI g ?_ (by simp only [rgS]; first | with_reducible exact nZ_rng _ | with_reducible exact nB_rng _ | with_reducible exact wr_rng _ | with_reducible exact i32any _ | (first | omega | with_reducible assumption | (unfold rng; omega) | (unfold rng; (repeat' split) <;> omega) | grind)); exact rσ
      · refine Fr.sI g ?_ (by decide); exact fσ
      · exact trivial
    · rw [if_neg hc6_1]
      by_cases hc6_2 : v1 = 2
      · rw [if_pos hc6_2]
        unfold w_X16_told_104
        try simp only [forall_eq, rII, rIJ, rIP, rJJ, rJI, rJP, rPP, rPI, rPJ, g1, g2, g3, g4, g5, g6, g7, g8, Nat.reduceEqDiff, Nat.reduceAdd, false_and, and_false, true_and, and_true, reduceIte, nZ0, nZ1]
        have q3 := rσ.2.1 50; simp only [rgS] at q3
        refine hQ _ _ ?_ ?_ ?_
        · refine Rg.sI g ?_ (by simp only [rgS]; first | with_reducible exact nZ_rng _ | with_reducible exact nB_rng _ | with_reducible exact wr_rng _ | with_reducible exact i32any _ | (first | omega | with_reducible assumption | (unfold rng; omega) | (unfold rng; (repeat' split) <;> omega) | grind)); exact rσ
        · refine Fr.sI g ?_ (by decide); exact fσ
        · exact trivial
      · rw [if_neg hc6_2]
        by_cases hc6_3 : v1 = 3
        · rw [if_pos hc6_3]
          unfold w_X16_told_109
          try simp only [forall_eq, rII, rIJ, rIP, rJJ, rJI, rJP, rPP, rPI, rPJ, g1, g2, g3, g4, g5, g6, g7, g8, Nat.reduceEqDiff, Nat.reduceAdd, false_and, and_false, true_and, and_true, reduceIte, nZ0, nZ1]
          refine hQ _ _ ?_ ?_ ?_
          · refine Rg.sI g ?_ (by simp only [rgS]; first | with_reducible exact nZ_rng _ | with_reducible exact nB_rng _ | with_reducible exact wr_rng _ | with_reducible exact i32any _ | (first | omega | with_reducible assumption | (unfold rng; omega) | (unfold rng; (repeat' split) <;> omega) | grind)); exact rσ
          · refine Fr.sI g ?_ (by decide); exact fσ
          · exact trivial
        · rw [if_neg hc6_3]
          by_cases hc6_4 : v1 = 4
          · rw [if_pos hc6_4]
            unfold w_X16_told_115
            try simp only [forall_eq, rII, rIJ, rIP, rJJ, rJI, rJP, rPP, rPI, rPJ, g1, g2, g3, g4, g5, g6, g7, g8, Nat.reduceEqDiff, Nat.reduceAdd, false_and, and_false, true_and, and_true, reduceIte, nZ0, nZ1]
            refine hQ _ _ ?_ ?_ ?_
            · refine Rg.sI g ?_ (by simp only [rgS]; first | with_reducible exact nZ_rng _ | with_reducible exact nB_rng _ | with_reducible exact wr_rng _ | with_reducible exact i32any _ | (first | omega | with_reducible assumption | (unfold rng; omega) | (unfold rng; (repeat' split) <;> omega) | grind)); exact rσ
            · refine Fr.sI g ?_ (by decide); exact fσ
            · exact trivial
          · rw [if_neg hc6_4]
            by_cases hc6_5 : v1 = 5
            · rw [if_pos hc6_5]
              unfold w_X16_told_121
              try simp only [forall_eq, rII, rIJ, rIP, rJJ, rJI, rJP, rPP, rPI, rPJ, g1, g2, g3, g4, g5, g6, g7, g8, Nat.reduceEqDiff, Nat.reduceAdd, false_and, and_false, true_and, and_true, reduceIte, nZ0, nZ1]
              have q4 := rσ.2.1 92; simp only [rgS] at q4
              refine hQ _ _ ?_ ?_ ?_
              · refine Rg.sI g ?_ (by simp only [rgS]; first | with_reducible exact nZ_rng _ | with_reducible exact nB_rng _ | with_reducible exact wr_rng _ | with_reducible exact i32any _ | (first | omega | with_reducible assumption | (unfold rng; omega) | (unfold rng; (repeat' split) <;> omega) | grind)); exact rσ
              · refine Fr.sI g ?_ (by decide); exact fσ
              · exact trivial
            · rw [if_neg hc6_5]
              by_cases hc6_6 : v1 = 6
              · rw [if_pos hc6_6]
                unfold w_X16_told_126
                try simp only [forall_eq, rII, rIJ, rIP, rJJ, rJI, rJP, rPP, rPI, rPJ, g1, g2, g3, g4, g5, g6, g7, g8, Nat.reduceEqDiff, Nat.reduceAdd, false_and, and_false, true_and, and_true, reduceIte, nZ0, nZ1]
                have q5 := rσ.2.1 93; simp only [rgS] at q5
                refine hQ _ _ ?_ ?_ ?_
                · refine Rg.sI g ?_ (by simp only [rgS]; first | with_reducible exact nZ_rng _ | with_reducible exact nB_rng _ | with_reducible exact wr_rng _ | with_reducible exact i32any _ | (first | omega | with_reducible assumption | (unfold rng; omega) | (unfold rng; (repeat' split) <;> omega) | grind)); exact rσ
                · refine Fr.sI g ?_ (by decide); exact fσ
                · exact trivial
              · rw [if_neg hc6_6]
                by_cases hc6_7 : v1 = 7
                · rw [if_pos hc6_7]
                  unfold w_X16_told_131
                  try simp only [forall_eq, rII, rIJ, rIP, rJJ, rJI, rJP, rPP, rPI, rPJ, g1, g2, g3, g4, g5, g6, g7, g8, Nat.reduceEqDiff, Nat.reduceAdd, false_and, and_false, true_and, and_true, reduceIte, nZ0, nZ1]
                  have q6 := rσ.2.1 112; simp only [rgS] at q6
                  refine hQ _ _ ?_ ?_ ?_
                  · refine Rg.sI g ?_ (by simp only [rgS]; first | with_reducible exact nZ_rng _ | with_reducible exact nB_rng _ | with_reducible exact wr_rng _ | with_reducible exact i32any _ | (first | omega | with_reducible assumption | (unfold rng; omega) | (unfold rng; (repeat' split) <;> omega) | grind)); exact rσ
                  · refine Fr.sI g ?_ (by decide); exact fσ
                  · exact trivial
                · rw [if_neg hc6_7]
                  by_cases hc6_8 : v1 = 8
                  · rw [if_pos hc6_8]
                    unfold w_X16_told_136
                    try simp only [forall_eq, rII, rIJ, rIP, rJJ, rJI, rJP, rPP, rPI, rPJ, g1, g2, g3, g4, g5, g6, g7, g8, Nat.reduceEqDiff, Nat.reduceAdd, false_and, and_false, true_and, and_true, reduceIte, nZ0, nZ1]
                    have q7 := rσ.2.1 31; simp only [rgS] at q7
                    split
                    · rename_i hc140
                      skip
                      unfold w_X16_told_147
                      try simp only [forall_eq, rII, rIJ, rIP, rJJ, rJI, rJP, rPP, rPI, rPJ, g1, g2, g3, g4, g5, g6, g7, g8, Nat.reduceEqDiff, Nat.reduceAdd, false_and, and_false, true_and, and_true, reduceIte, nZ0, nZ1]
                      unfold w_X16_told_148
                      try simp only [forall_eq, rII, rIJ, rIP, rJJ, rJI, rJP, rPP, rPI, rPJ, g1, g2, g3, g4, g5, g6, g7, g8, Nat.reduceEqDiff, Nat.reduceAdd, false_and, and_false, true_and, and_true, reduceIte, nZ0, nZ1]
                      refine hQ _ _ ?_ ?_ ?_
                      · refine Rg.sI g ?_ (by simp only [rgS]; first | with_reducible exact nZ_rng _ | with_reducible exact nB_rng _ | with_reducible exact wr_rng _ | with_reducible exact i32any _ | (first | omega | with_reducible assumption | (unfold rng; omega) | (unfold rng; (repeat' split) <;> omega) | grind)); exact rσ
                      · refine Fr.sI g ?_ (by decide); exact fσ
                      · exact trivial
                    · rename_i hc140
                      skip
                      unfold w_X16_told_143
                      try simp only [forall_eq, rII, rIJ, rIP, rJJ, rJI, rJP, rPP, rPI, rPJ, g1, g2, g3, g4, g5, g6, g7, g8, Nat.reduceEqDiff, Nat.reduceAdd, false_and, and_false, true_and, and_true, reduceIte, nZ0, nZ1]
                      unfold w_X16_told_148
                      try simp only [forall_eq, rII, rIJ, rIP, rJJ, rJI, rJP, rPP, rPI, rPJ, g1, g2, g3, g4, g5, g6, g7, g8, Nat.reduceEqDiff, Nat.reduceAdd, false_and, and_false, true_and, and_true, reduceIte, nZ0, nZ1]
                      refine hQ _ _ ?_ ?_ ?_
                      · refine Rg.sI g ?_ (by simp only [rgS]; first | with_reducible exact nZ_rng _ | with_reducible exact nB_rng _ | with_reducible exact wr_rng _ | with_reducible exact i32any _ | (first | omega | with_reducible assumption | (unfold rng; omega) | (unfold rng; (repeat' split) <;> omega) | grind)); exact rσ
                      · refine Fr.sI g ?_ (by decide); exact fσ
                      · exact trivial
                  · rw [if_neg hc6_8]
                    by_cases hc6_9 : v1 = 9
                    · rw [if_pos hc6_9]
                      unfold w_X16_told_149
                      try simp only [forall_eq, rII, rIJ, rIP, rJJ, rJI, rJP, rPP, rPI, rPJ, g1, g2, g3, g4, g5, g6, g7, g8, Nat.reduceEqDiff, Nat.reduceAdd, false_and, and_false, true_and, and_true, reduceIte, nZ0, nZ1]
                      have q8 := rσ.2.1 32; simp only [rgS] at q8
                      split
                      · rename_i hc153
                        skip
                        unfold w_X16_told_160
                        try simp only [forall_eq, rII, rIJ, rIP, rJJ, rJI, rJP, rPP, rPI, rPJ, g1, g2, g3, g4, g5, g6, g7, g8, Nat.reduceEqDiff, Nat.reduceAdd, false_and, and_false, true_and, and_true, reduceIte, nZ0, nZ1]
                        unfold w_X16_told_161
                        try simp only [forall_eq, rII, rIJ, rIP, rJJ, rJI, rJP, rPP, rPI, rPJ, g1, g2, g3, g4, g5, g6, g7, g8, Nat.reduceEqDiff, Nat.reduceAdd, false_and, and_false, true_and, and_true, reduceIte, nZ0, nZ1]
                        refine hQ _ _ ?_ ?_ ?_
                        · refine Rg.sI g ?_ (by simp only [rgS]; first | with_reducible exact nZ_rng _ | with_reducible exact nB_rng _ | with_reducible exact wr_rng _ | with_reducible exact i32any _ | (first | omega | with_reducible assumption | (unfold rng; omega) | (unfold rng; (repeat' split) <;> omega) | grind)); exact rσ
                        · refine Fr.sI g ?_ (by decide); exact fσ
                        · exact trivial
                      · rename_i hc153
                        skip
                        unfold w_X16_told_156
                        try simp only [forall_eq, rII, rIJ, rIP, rJJ, rJI, rJP, rPP, rPI, rPJ, g1, g2, g3, g4, g5, g6, g7, g8, Nat.reduceEqDiff, Nat.reduceAdd, false_and, and_false, true_and, and_true, reduceIte, nZ0, nZ1]
                        unfold w_X16_told_161
                        try simp only [forall_eq, rII, rIJ, rIP, rJJ, rJI, rJP, rPP, rPI, rPJ, g1, g2, g3, g4, g5, g6, g7, g8, Nat.reduceEqDiff, Nat.reduceAdd, false_and, and_false, true_and, and_true, reduceIte, nZ0, nZ1]
                        refine hQ _ _ ?_ ?_ ?_
                        · refine Rg.sI g ?_ (by simp only [rgS]; first | with_reducible exact nZ_rng _ | with_reducible exact nB_rng _ | with_reducible exact wr_rng _ | with_reducible exact i32any _ | (first | omega | with_reducible assumption | (unfold rng; omega) | (unfold rng; (repeat' split) <;> omega) | grind)); exact rσ
                        · refine Fr.sI g ?_ (by decide); exact fσ
                        · exact trivial
                    · rw [if_neg hc6_9]
                      by_cases hc6_10 : v1 = 10
                      · rw [if_pos hc6_10]
                        unfold w_X16_told_162
                        try simp only [forall_eq, rII, rIJ, rIP, rJJ, rJI, rJP, rPP, rPI, rPJ, g1, g2, g3, g4, g5, g6, g7, g8, Nat.reduceEqDiff, Nat.reduceAdd, false_and, and_false, true_and, and_true, reduceIte, nZ0, nZ1]
                        refine s_X16_listed g (by refine Rg.sI g ?_ (by simp only [rgS]; first | with_reducible exact nZ_rng _ | with_reducible exact nB_rng _ | with_reducible exact wr_rng _ | with_reducible exact i32any _ | (first | omega | with_reducible assumption | (unfold rng; omega) | (unfold rng; (repeat' split) <;> omega) | grind)); exact rσ) (by (try simp only [rII, rIJ, rIP, rJJ, rJI, rJP, rPP, rPI, rPJ, g1, g2, g3, g4, g5, g6, g7, g8, Nat.reduceEqDiff, Nat.reduceAdd, false_and, and_false, true_and, and_true, reduceIte, nZ0, nZ1]) <;> (first | omega | with_reducible assumption | (unfold rng; omega) | (unfold rng; (repeat' split) <;> omega) | grind)) (fun r18 p9 => ?_)
                        try simp only [forall_eq, rII, rIJ, rIP, rJJ, rJI, rJP, rPP, rPI, rPJ, g1, g2, g3, g4, g5, g6, g7, g8, Nat.reduceEqDiff, Nat.reduceAdd, false_and, and_false, true_and, and_true, reduceIte, nZ0, nZ1]
                        refine hQ _ _ ?_ ?_ ?_
                        · refine Rg.sI g ?_ (by simp only [rgS]; first | with_reducible exact nZ_rng _ | with_reducible exact nB_rng _ | with_reducible exact wr_rng _ | with_reducible exact i32any _ | (first | omega | with_reducible assumption | (unfold rng; omega) | (unfold rng; (repeat' split) <;> omega) | grind)); exact rσ
                        · refine Fr.sI g ?_ (by decide); exact fσ
                        · exact trivial
                      · rw [if_neg hc6_10]
                        by_cases hc6_11 : v1 = 11
                        · rw [if_pos hc6_11]
                          unfold w_X16_told_168
                          try simp only [forall_eq, rII, rIJ, rIP, rJJ, rJI, rJP, rPP, rPI, rPJ, g1, g2, g3, g4, g5, g6, g7, g8, Nat.reduceEqDiff, Nat.reduceAdd, false_and, and_false, true_and, and_true, reduceIte, nZ0, nZ1]
                          refine s_X16_listed g (by refine Rg.sI g ?_ (by simp only [rgS]; first | with_reducible exact nZ_rng _ | with_reducible exact nB_rng _ | with_reducible exact wr_rng _ | with_reducible exact i32any _ | (first | omega | with_reducible assumption | (unfold rng; omega) | (unfold rng; (repeat' split) <;> omega) | grind)); exact rσ) (by (try simp only [rII, rIJ, rIP, rJJ, rJI, rJP, rPP, rPI, rPJ, g1, g2, g3, g4, g5, g6, g7, g8, Nat.reduceEqDiff, Nat.reduceAdd, false_and, and_false, true_and, and_true, reduceIte, nZ0, nZ1]) <;> (first | omega | with_reducible assumption | (unfold rng; omega) | (unfold rng; (repeat' split) <;> omega) | grind)) (fun r20 p10 => ?_)
                          try simp only [forall_eq, rII, rIJ, rIP, rJJ, rJI, rJP, rPP, rPI, rPJ, g1, g2, g3, g4, g5, g6, g7, g8, Nat.reduceEqDiff, Nat.reduceAdd, false_and, and_false, true_and, and_true, reduceIte, nZ0, nZ1]
                          refine hQ _ _ ?_ ?_ ?_
                          · refine Rg.sI g ?_ (by simp only [rgS]; first | with_reducible exact nZ_rng _ | with_reducible exact nB_rng _ | with_reducible exact wr_rng _ | with_reducible exact i32any _ | (first | omega | with_reducible assumption | (unfold rng; omega) | (unfold rng; (repeat' split) <;> omega) | grind)); exact rσ
                          · refine Fr.sI g ?_ (by decide); exact fσ
                          · exact trivial
                        · rw [if_neg hc6_11]
                          by_cases hc6_12 : v1 = 12
                          · rw [if_pos hc6_12]
                            unfold w_X16_told_174
                            try simp only [forall_eq, rII, rIJ, rIP, rJJ, rJI, rJP, rPP, rPI, rPJ, g1, g2, g3, g4, g5, g6, g7, g8, Nat.reduceEqDiff, Nat.reduceAdd, false_and, and_false, true_and, and_true, reduceIte, nZ0, nZ1]
                            have q11 := rσ.2.1 27; simp only [rgS] at q11
                            refine hQ _ _ ?_ ?_ ?_
                            · refine Rg.sI g ?_ (by simp only [rgS]; first | with_reducible exact nZ_rng _ | with_reducible exact nB_rng _ | with_reducible exact wr_rng _ | with_reducible exact i32any _ | (first | omega | with_reducible assumption | (unfold rng; omega) | (unfold rng; (repeat' split) <;> omega) | grind)); exact rσ
                            · refine Fr.sI g ?_ (by decide); exact fσ
                            · exact trivial
                          · rw [if_neg hc6_12]
                            by_cases hc6_13 : v1 = 13
                            · rw [if_pos hc6_13]
                              unfold w_X16_told_179
                              try simp only [forall_eq, rII, rIJ, rIP, rJJ, rJI, rJP, rPP, rPI, rPJ, g1, g2, g3, g4, g5, g6, g7, g8, Nat.reduceEqDiff, Nat.reduceAdd, false_and, and_false, true_and, and_true, reduceIte, nZ0, nZ1]
                              split
                              · rename_i hc183
                                have hjj := hj.resolve_left hc183
                                have hJJ := (hjo hjj).1
                                have hJ1 := (hjo hjj).2.1
                                have hn : 0 ≤ gI σ ja 0 ∧ gI σ ja 0 ≤ 16 := ⟨by omega, by omega⟩
                                have hno : 0 ≤ gI σ ja 1 ∧ gI σ ja 1 ≤ 4 := ⟨by omega, by omega⟩
                                skip
                                unfold w_X16_told_190
                                try simp only [forall_eq, rII, rIJ, rIP, rJJ, rJI, rJP, rPP, rPI, rPJ, g1, g2, g3, g4, g5, g6, g7, g8, Nat.reduceEqDiff, Nat.reduceAdd, false_and, and_false, true_and, and_true, reduceIte, nZ0, nZ1]
                                refine ⟨ja, by exact hj.resolve_left (by assumption), hja, ?_⟩
                                unfold w_X16_told_197
                                try simp only [forall_eq, rII, rIJ, rIP, rJJ, rJI, rJP, rPP, rPI, rPJ, g1, g2, g3, g4, g5, g6, g7, g8, Nat.reduceEqDiff, Nat.reduceAdd, false_and, and_false, true_and, and_true, reduceIte, nZ0, nZ1]
                                refine hQ _ _ ?_ ?_ ?_
                                · refine Rg.sI g ?_ (by simp only [rgS]; first | with_reducible exact nZ_rng _ | with_reducible exact nB_rng _ | with_reducible exact wr_rng _ | with_reducible exact i32any _ | (first | omega | with_reducible assumption | (unfold rng; omega) | (unfold rng; (repeat' split) <;> omega) | grind)); exact rσ
                                · refine Fr.sI g ?_ (by decide); exact fσ
                                · exact trivial
                              · rename_i hc183
                                skip
                                unfold w_X16_told_186
                                try simp only [forall_eq, rII, rIJ, rIP, rJJ, rJI, rJP, rPP, rPI, rPJ, g1, g2, g3, g4, g5, g6, g7, g8, Nat.reduceEqDiff, Nat.reduceAdd, false_and, and_false, true_and, and_true, reduceIte, nZ0, nZ1]
                                unfold w_X16_told_197
                                try simp only [forall_eq, rII, rIJ, rIP, rJJ, rJI, rJP, rPP, rPI, rPJ, g1, g2, g3, g4, g5, g6, g7, g8, Nat.reduceEqDiff, Nat.reduceAdd, false_and, and_false, true_and, and_true, reduceIte, nZ0, nZ1]
                                refine hQ _ _ ?_ ?_ ?_
                                · refine Rg.sI g ?_ (by simp only [rgS]; first | with_reducible exact nZ_rng _ | with_reducible exact nB_rng _ | with_reducible exact wr_rng _ | with_reducible exact i32any _ | (first | omega | with_reducible assumption | (unfold rng; omega) | (unfold rng; (repeat' split) <;> omega) | grind)); exact rσ
                                · refine Fr.sI g ?_ (by decide); exact fσ
                                · exact trivial
                            · rw [if_neg hc6_13]
                              by_cases hc6_14 : v1 = 14
                              · rw [if_pos hc6_14]
                                unfold w_X16_told_198
                                try simp only [forall_eq, rII, rIJ, rIP, rJJ, rJI, rJP, rPP, rPI, rPJ, g1, g2, g3, g4, g5, g6, g7, g8, Nat.reduceEqDiff, Nat.reduceAdd, false_and, and_false, true_and, and_true, reduceIte, nZ0, nZ1]
                                have q13 := rσ.2.1 3; simp only [rgS] at q13
                                refine hQ _ _ ?_ ?_ ?_
                                · refine Rg.sI g ?_ (by simp only [rgS]; first | with_reducible exact nZ_rng _ | with_reducible exact nB_rng _ | with_reducible exact wr_rng _ | with_reducible exact i32any _ | (first | omega | with_reducible assumption | (unfold rng; omega) | (unfold rng; (repeat' split) <;> omega) | grind)); exact rσ
                                · refine Fr.sI g ?_ (by decide); exact fσ
                                · exact trivial
                              · rw [if_neg hc6_14]
                                unfold w_X16_told_203
                                try simp only [forall_eq, rII, rIJ, rIP, rJJ, rJI, rJP, rPP, rPI, rPJ, g1, g2, g3, g4, g5, g6, g7, g8, Nat.reduceEqDiff, Nat.reduceAdd, false_and, and_false, true_and, and_true, reduceIte, nZ0, nZ1]
                                refine hQ _ _ ?_ ?_ ?_
                                · refine Rg.sI g ?_ (by simp only [rgS]; first | with_reducible exact nZ_rng _ | with_reducible exact nB_rng _ | with_reducible exact wr_rng _ | with_reducible exact i32any _ | (first | omega | with_reducible assumption | (unfold rng; omega) | (unfold rng; (repeat' split) <;> omega) | grind)); exact rσ
                                · refine Fr.sI g ?_ (by decide); exact fσ
                                · exact trivial
set_option maxHeartbeats 2000000 in
theorem s2_X16_records {ra : Nat → Nat} {jx : Nat → Nat → Nat} {rm : Nat} {ja : Nat} (g : Geo ra jx rm) {σ : Sg} {v1 : Int} {v2 : Int64} (rσ : Rg ra jx rm σ) (hj : gP σ rm 17 = none ∨ gP σ rm 17 = some ja) (hja : ja = ra 15 ∨ ja = ra 16) (hjo : gP σ rm 17 = some ja → JobOK jx ja σ) (b1 : -2147483648 ≤ v1 ∧ v1 ≤ 2147483647) {Q : Sg → Int → Prop} {X : Sg → String → Prop} (hQ : ∀ (σ' : Sg) (r : Int), Rg ra jx rm σ' → Fr ra jx rm [] [0] σ σ' → (True) → Q σ' r) : wp_X16_records ra jx rm v1 v2 σ Q X := by
  obtain ⟨g1, g2, g3, g4, g5, g6, g7, g8⟩ := id g
  have fσ : Fr ra jx rm [] [0] σ σ := Fr.rf
  unfold wp_X16_records
  unfold w_X16_records_0
  try simp only [forall_eq, rII, rIJ, rIP, rJJ, rJI, rJP, rPP, rPI, rPJ, g1, g2, g3, g4, g5, g6, g7, g8, Nat.reduceEqDiff, Nat.reduceAdd, false_and, and_false, true_and, and_true, reduceIte, nZ0, nZ1]
  split
  · rename_i hc5
    skip
    unfold w_X16_records_27
    try simp only [forall_eq, rII, rIJ, rIP, rJJ, rJI, rJP, rPP, rPI, rPJ, g1, g2, g3, g4, g5, g6, g7, g8, Nat.reduceEqDiff, Nat.reduceAdd, false_and, and_false, true_and, and_true, reduceIte, nZ0, nZ1]
    unfold w_X16_records_62
    try simp only [forall_eq, rII, rIJ, rIP, rJJ, rJI, rJP, rPP, rPI, rPJ, g1, g2, g3, g4, g5, g6, g7, g8, Nat.reduceEqDiff, Nat.reduceAdd, false_and, and_false, true_and, and_true, reduceIte, nZ0, nZ1]
    have L71 : ∀ (fu71 : Nat) (τ71 : Sg) (v4 : Int) (v5 : Int), Rg ra jx rm τ71 → Fr ra jx rm [] [0] σ τ71 → (0 ≤ v5 ∧ v5 ≤ 4000 ∧ 0 ≤ v4 ∧ v4 ≤ v5) → ((4000 - v5).toNat) < fu71 → wl_X16_records_71 ra jx rm Q X fu71 τ71 v1 v2 v4 v5 := by
      intro fu71
      induction fu71 with
      | zero => intro τ71 _ _ _ _ _ h9; omega
      | succ fu71 ih71 =>
        intro τ71 v4 v5 rτ71 fτ71 hi71 hm71
        unfold wl_X16_records_71
        have eτ71_98 := fτ71.1 98 (by decide)
        have eτ71_100 := fτ71.1 100 (by decide)
        have eτ71_102 := fτ71.1 102 (by decide)
        have sτ71_30 := fτ71.2.1 30 (by decide)
        have sτ71_32 := fτ71.2.1 32 (by decide)
        have sτ71_92 := fτ71.2.1 92 (by decide)
        have jτ71 := fτ71.2.2.1
        have pτ71 := fτ71.2.2.2
        unfold w_X16_records_71
        try simp only [forall_eq, rII, rIJ, rIP, rJJ, rJI, rJP, rPP, rPI, rPJ, g1, g2, g3, g4, g5, g6, g7, g8, Nat.reduceEqDiff, Nat.reduceAdd, false_and, and_false, true_and, and_true, reduceIte, nZ0, nZ1, eτ71_98.1, eτ71_98.2, eτ71_100.1, eτ71_100.2, eτ71_102.1, eτ71_102.2, sτ71_30.1, sτ71_30.2, sτ71_32.1, sτ71_32.2, sτ71_92.1, sτ71_92.2, fun a k => (jτ71 a k).1, fun a k => (jτ71 a k).2, pτ71]
        have q1 := rτ71.2.1 0; simp only [rgS] at q1
        split
        · rename_i hc75
          skip
          unfold w_X16_records_135
          try simp only [forall_eq, rII, rIJ, rIP, rJJ, rJI, rJP, rPP, rPI, rPJ, g1, g2, g3, g4, g5, g6, g7, g8, Nat.reduceEqDiff, Nat.reduceAdd, false_and, and_false, true_and, and_true, reduceIte, nZ0, nZ1, eτ71_98.1, eτ71_98.2, eτ71_100.1, eτ71_100.2, eτ71_102.1, eτ71_102.2, sτ71_30.1, sτ71_30.2, sτ71_32.1, sτ71_32.2, sτ71_92.1, sτ71_92.2, fun a k => (jτ71 a k).1, fun a k => (jτ71 a k).2, pτ71]
          refine hQ _ _ ?_ ?_ ?_
          · exact rτ71
          · exact fτ71
          · exact trivial
        · rename_i hc75
          skip
          unfold w_X16_records_78
          try simp only [forall_eq, rII, rIJ, rIP, rJJ, rJI, rJP, rPP, rPI, rPJ, g1, g2, g3, g4, g5, g6, g7, g8, Nat.reduceEqDiff, Nat.reduceAdd, false_and, and_false, true_and, and_true, reduceIte, nZ0, nZ1, eτ71_98.1, eτ71_98.2, eτ71_100.1, eτ71_100.2, eτ71_102.1, eτ71_102.2, sτ71_30.1, sτ71_30.2, sτ71_32.1, sτ71_32.2, sτ71_92.1, sτ71_92.2, fun a k => (jτ71 a k).1, fun a k => (jτ71 a k).2, pτ71]
          have q2 := rσ.2.1 92; simp only [rgS] at q2
          split
          · rename_i hc82
            skip
            unfold w_X16_records_135
            try simp only [forall_eq, rII, rIJ, rIP, rJJ, rJI, rJP, rPP, rPI, rPJ, g1, g2, g3, g4, g5, g6, g7, g8, Nat.reduceEqDiff, Nat.reduceAdd, false_and, and_false, true_and, and_true, reduceIte, nZ0, nZ1, eτ71_98.1, eτ71_98.2, eτ71_100.1, eτ71_100.2, eτ71_102.1, eτ71_102.2, sτ71_30.1, sτ71_30.2, sτ71_32.1, sτ71_32.2, sτ71_92.1, sτ71_92.2, fun a k => (jτ71 a k).1, fun a k => (jτ71 a k).2, pτ71]
            refine hQ _ _ ?_ ?_ ?_
            · exact rτ71
            · exact fτ71
            · exact trivial
          · rename_i hc82
            skip
            unfold w_X16_records_85
            try simp only [forall_eq, rII, rIJ, rIP, rJJ, rJI, rJP, rPP, rPI, rPJ, g1, g2, g3, g4, g5, g6, g7, g8, Nat.reduceEqDiff, Nat.reduceAdd, false_and, and_false, true_and, and_true, reduceIte, nZ0, nZ1, eτ71_98.1, eτ71_98.2, eτ71_100.1, eτ71_100.2, eτ71_102.1, eτ71_102.2, sτ71_30.1, sτ71_30.2, sτ71_32.1, sτ71_32.2, sτ71_92.1, sτ71_92.2, fun a k => (jτ71 a k).1, fun a k => (jτ71 a k).2, pτ71]
            have q3 := rσ.1 98 0; simp only [rgT] at q3
            split
            · rename_i hc93
              skip
              unfold w_X16_records_135
              try simp only [forall_eq, rII, rIJ, rIP, rJJ, rJI, rJP, rPP, rPI, rPJ, g1, g2, g3, g4, g5, g6, g7, g8, Nat.reduceEqDiff, Nat.reduceAdd, false_and, and_false, true_and, and_true, reduceIte, nZ0, nZ1, eτ71_98.1, eτ71_98.2, eτ71_100.1, eτ71_100.2, eτ71_102.1, eτ71_102.2, sτ71_30.1, sτ71_30.2, sτ71_32.1, sτ71_32.2, sτ71_92.1, sτ71_92.2, fun a k => (jτ71 a k).1, fun a k => (jτ71 a k).2, pτ71]
              refine hQ _ _ ?_ ?_ ?_
              · exact rτ71
              · exact fτ71
              · exact trivial
            · rename_i hc93
              skip
              unfold w_X16_records_96
              try simp only [forall_eq, rII, rIJ, rIP, rJJ, rJI, rJP, rPP, rPI, rPJ, g1, g2, g3, g4, g5, g6, g7, g8, Nat.reduceEqDiff, Nat.reduceAdd, false_and, and_false, true_and, and_true, reduceIte, nZ0, nZ1, eτ71_98.1, eτ71_98.2, eτ71_100.1, eτ71_100.2, eτ71_102.1, eτ71_102.2, sτ71_30.1, sτ71_30.2, sτ71_32.1, sτ71_32.2, sτ71_92.1, sτ71_92.2, fun a k => (jτ71 a k).1, fun a k => (jτ71 a k).2, pτ71]
              refine ⟨by (first | omega | with_reducible assumption | (unfold rng; omega) | (unfold rng; (repeat' split) <;> omega) | grind), ?_⟩
              have q4 := rσ.1 100 (v5.toNat); simp only [rgT] at q4
              split
              · rename_i hc106
                skip
                unfold w_X16_records_125
                try simp only [forall_eq, rII, rIJ, rIP, rJJ, rJI, rJP, rPP, rPI, rPJ, g1, g2, g3, g4, g5, g6, g7, g8, Nat.reduceEqDiff, Nat.reduceAdd, false_and, and_false, true_and, and_true, reduceIte, nZ0, nZ1, eτ71_98.1, eτ71_98.2, eτ71_100.1, eτ71_100.2, eτ71_102.1, eτ71_102.2, sτ71_30.1, sτ71_30.2, sτ71_32.1, sτ71_32.2, sτ71_92.1, sτ71_92.2, fun a k => (jτ71 a k).1, fun a k => (jτ71 a k).2, pτ71]
                unfold w_X16_records_126
                try simp only [forall_eq, rII, rIJ, rIP, rJJ, rJI, rJP, rPP, rPI, rPJ, g1, g2, g3, g4, g5, g6, g7, g8, Nat.reduceEqDiff, Nat.reduceAdd, false_and, and_false, true_and, and_true, reduceIte, nZ0, nZ1, eτ71_98.1, eτ71_98.2, eτ71_100.1, eτ71_100.2, eτ71_102.1, eτ71_102.2, sτ71_30.1, sτ71_30.2, sτ71_32.1, sτ71_32.2, sτ71_92.1, sτ71_92.2, fun a k => (jτ71 a k).1, fun a k => (jτ71 a k).2, pτ71]
                refine ⟨by (first | omega | with_reducible assumption | (unfold rng; omega) | (unfold rng; (repeat' split) <;> omega) | grind), ?_⟩
                refine ⟨by (first | omega | with_reducible assumption | (unfold rng; omega) | (unfold rng; (repeat' split) <;> omega) | grind), ?_⟩
                refine ih71 _ _ _ ?_ ?_ ?_ ?_
                · exact rτ71
                · exact fτ71
                · (try simp only [rII, rIJ, rIP, rJJ, rJI, rJP, rPP, rPI, rPJ, g1, g2, g3, g4, g5, g6, g7, g8, Nat.reduceEqDiff, Nat.reduceAdd, false_and, and_false, true_and, and_true, reduceIte, nZ0, nZ1, eτ71_98.1, eτ71_98.2, eτ71_100.1, eτ71_100.2, eτ71_102.1, eτ71_102.2, sτ71_30.1, sτ71_30.2, sτ71_32.1, sτ71_32.2, sτ71_92.1, sτ71_92.2, fun a k => (jτ71 a k).1, fun a k => (jτ71 a k).2, pτ71]) <;> (first | omega | with_reducible assumption | (unfold rng; omega) | (unfold rng; (repeat' split) <;> omega) | grind)
                · (try simp only [rII, rIJ, rIP, rJJ, rJI, rJP, rPP, rPI, rPJ, g1, g2, g3, g4, g5, g6, g7, g8, Nat.reduceEqDiff, Nat.reduceAdd, false_and, and_false, true_and, and_true, reduceIte, nZ0, nZ1, eτ71_98.1, eτ71_98.2, eτ71_100.1, eτ71_100.2, eτ71_102.1, eτ71_102.2, sτ71_30.1, sτ71_30.2, sτ71_32.1, sτ71_32.2, sτ71_92.1, sτ71_92.2, fun a k => (jτ71 a k).1, fun a k => (jτ71 a k).2, pτ71]) <;> (first | omega | with_reducible assumption | (unfold rng; omega) | (unfold rng; (repeat' split) <;> omega) | grind)
              · rename_i hc106
                skip
                unfold w_X16_records_109
                try simp only [forall_eq, rII, rIJ, rIP, rJJ, rJI, rJP, rPP, rPI, rPJ, g1, g2, g3, g4, g5, g6, g7, g8, Nat.reduceEqDiff, Nat.reduceAdd, false_and, and_false, true_and, and_true, reduceIte, nZ0, nZ1, eτ71_98.1, eτ71_98.2, eτ71_100.1, eτ71_100.2, eτ71_102.1, eτ71_102.2, sτ71_30.1, sτ71_30.2, sτ71_32.1, sτ71_32.2, sτ71_92.1, sτ71_92.2, fun a k => (jτ71 a k).1, fun a k => (jτ71 a k).2, pτ71]
                refine ⟨by (first | omega | with_reducible assumption | (unfold rng; omega) | (unfold rng; (repeat' split) <;> omega) | grind), ?_⟩
                split
                · rename_i hc118
                  skip
                  unfold w_X16_records_125
                  try simp only [forall_eq, rII, rIJ, rIP, rJJ, rJI, rJP, rPP, rPI, rPJ, g1, g2, g3, g4, g5, g6, g7, g8, Nat.reduceEqDiff, Nat.reduceAdd, false_and, and_false, true_and, and_true, reduceIte, nZ0, nZ1, eτ71_98.1, eτ71_98.2, eτ71_100.1, eτ71_100.2, eτ71_102.1, eτ71_102.2, sτ71_30.1, sτ71_30.2, sτ71_32.1, sτ71_32.2, sτ71_92.1, sτ71_92.2, fun a k => (jτ71 a k).1, fun a k => (jτ71 a k).2, pτ71]
                  unfold w_X16_records_126
                  try simp only [forall_eq, rII, rIJ, rIP, rJJ, rJI, rJP, rPP, rPI, rPJ, g1, g2, g3, g4, g5, g6, g7, g8, Nat.reduceEqDiff, Nat.reduceAdd, false_and, and_false, true_and, and_true, reduceIte, nZ0, nZ1, eτ71_98.1, eτ71_98.2, eτ71_100.1, eτ71_100.2, eτ71_102.1, eτ71_102.2, sτ71_30.1, sτ71_30.2, sτ71_32.1, sτ71_32.2, sτ71_92.1, sτ71_92.2, fun a k => (jτ71 a k).1, fun a k => (jτ71 a k).2, pτ71]
                  refine ⟨by (first | omega | with_reducible assumption | (unfold rng; omega) | (unfold rng; (repeat' split) <;> omega) | grind), ?_⟩
                  refine ⟨by (first | omega | with_reducible assumption | (unfold rng; omega) | (unfold rng; (repeat' split) <;> omega) | grind), ?_⟩
                  refine ih71 _ _ _ ?_ ?_ ?_ ?_
                  · exact rτ71
                  · exact fτ71
                  · (try simp only [rII, rIJ, rIP, rJJ, rJI, rJP, rPP, rPI, rPJ, g1, g2, g3, g4, g5, g6, g7, g8, Nat.reduceEqDiff, Nat.reduceAdd, false_and, and_false, true_and, and_true, reduceIte, nZ0, nZ1, eτ71_98.1, eτ71_98.2, eτ71_100.1, eτ71_100.2, eτ71_102.1, eτ71_102.2, sτ71_30.1, sτ71_30.2, sτ71_32.1, sτ71_32.2, sτ71_92.1, sτ71_92.2, fun a k => (jτ71 a k).1, fun a k => (jτ71 a k).2, pτ71]) <;> (first | omega | with_reducible assumption | (unfold rng; omega) | (unfold rng; (repeat' split) <;> omega) | grind)
                  · (try simp only [rII, rIJ, rIP, rJJ, rJI, rJP, rPP, rPI, rPJ, g1, g2, g3, g4, g5, g6, g7, g8, Nat.reduceEqDiff, Nat.reduceAdd, false_and, and_false, true_and, and_true, reduceIte, nZ0, nZ1, eτ71_98.1, eτ71_98.2, eτ71_100.1, eτ71_100.2, eτ71_102.1, eτ71_102.2, sτ71_30.1, sτ71_30.2, sτ71_32.1, sτ71_32.2, sτ71_92.1, sτ71_92.2, fun a k => (jτ71 a k).1, fun a k => (jτ71 a k).2, pτ71]) <;> (first | omega | with_reducible assumption | (unfold rng; omega) | (unfold rng; (repeat' split) <;> omega) | grind)
                · rename_i hc118
                  skip
                  unfold w_X16_records_121
                  try simp only [forall_eq, rII, rIJ, rIP, rJJ, rJI, rJP, rPP, rPI, rPJ, g1, g2, g3, g4, g5, g6, g7, g8, Nat.reduceEqDiff, Nat.reduceAdd, false_and, and_false, true_and, and_true, reduceIte, nZ0, nZ1, eτ71_98.1, eτ71_98.2, eτ71_100.1, eτ71_100.2, eτ71_102.1, eτ71_102.2, sτ71_30.1, sτ71_30.2, sτ71_32.1, sτ71_32.2, sτ71_92.1, sτ71_92.2, fun a k => (jτ71 a k).1, fun a k => (jτ71 a k).2, pτ71]
                  unfold w_X16_records_126
                  try simp only [forall_eq, rII, rIJ, rIP, rJJ, rJI, rJP, rPP, rPI, rPJ, g1, g2, g3, g4, g5, g6, g7, g8, Nat.reduceEqDiff, Nat.reduceAdd, false_and, and_false, true_and, and_true, reduceIte, nZ0, nZ1, eτ71_98.1, eτ71_98.2, eτ71_100.1, eτ71_100.2, eτ71_102.1, eτ71_102.2, sτ71_30.1, sτ71_30.2, sτ71_32.1, sτ71_32.2, sτ71_92.1, sτ71_92.2, fun a k => (jτ71 a k).1, fun a k => (jτ71 a k).2, pτ71]
                  refine ⟨by (first | omega | with_reducible assumption | (unfold rng; omega) | (unfold rng; (repeat' split) <;> omega) | grind), ?_⟩
                  refine ⟨by (first | omega | with_reducible assumption | (unfold rng; omega) | (unfold rng; (repeat' split) <;> omega) | grind), ?_⟩
                  refine ih71 _ _ _ ?_ ?_ ?_ ?_
                  · exact rτ71
                  · exact fτ71
                  · (try simp only [rII, rIJ, rIP, rJJ, rJI, rJP, rPP, rPI, rPJ, g1, g2, g3, g4, g5, g6, g7, g8, Nat.reduceEqDiff, Nat.reduceAdd, false_and, and_false, true_and, and_true, reduceIte, nZ0, nZ1, eτ71_98.1, eτ71_98.2, eτ71_100.1, eτ71_100.2, eτ71_102.1, eτ71_102.2, sτ71_30.1, sτ71_30.2, sτ71_32.1, sτ71_32.2, sτ71_92.1, sτ71_92.2, fun a k => (jτ71 a k).1, fun a k => (jτ71 a k).2, pτ71]) <;> (first | omega | with_reducible assumption | (unfold rng; omega) | (unfold rng; (repeat' split) <;> omega) | grind)
                  · (try simp only [rII, rIJ, rIP, rJJ, rJI, rJP, rPP, rPI, rPJ, g1, g2, g3, g4, g5, g6, g7, g8, Nat.reduceEqDiff, Nat.reduceAdd, false_and, and_false, true_and, and_true, reduceIte, nZ0, nZ1, eτ71_98.1, eτ71_98.2, eτ71_100.1, eτ71_100.2, eτ71_102.1, eτ71_102.2, sτ71_30.1, sτ71_30.2, sτ71_32.1, sτ71_32.2, sτ71_92.1, sτ71_92.2, fun a k => (jτ71 a k).1, fun a k => (jτ71 a k).2, pτ71]) <;> (first | omega | with_reducible assumption | (unfold rng; omega) | (unfold rng; (repeat' split) <;> omega) | grind)
    refine ⟨_, L71 _ _ _ _ ?_ ?_ ?_ (Nat.lt_succ_self _)⟩
    · refine Rg.sI g ?_ (by simp only [rgS]; first | with_reducible exact nZ_rng _ | with_reducible exact nB_rng _ | with_reducible exact wr_rng _ | with_reducible exact i32any _ | (first | omega | with_reducible assumption | (unfold rng; omega) | (unfold rng; (repeat' split) <;> omega) | grind)); exact rσ
    · refine Fr.sI g ?_ (by decide); exact fσ
    · (try simp only [rII, rIJ, rIP, rJJ, rJI, rJP, rPP, rPI, rPJ, g1, g2, g3, g4, g5, g6, g7, g8, Nat.reduceEqDiff, Nat.reduceAdd, false_and, and_false, true_and, and_true, reduceIte, nZ0, nZ1]) <;> (first | omega | with_reducible assumption | (unfold rng; omega) | (unfold rng; (repeat' split) <;> omega) | grind)
  · rename_i hc5
    have hjj := hj.resolve_left hc5
    have hJJ := (hjo hjj).1
    have hJ1 := (hjo hjj).2.1
    have hn : 0 ≤ gI σ ja 0 ∧ gI σ ja 0 ≤ 16 := ⟨by omega, by omega⟩
    have hno : 0 ≤ gI σ ja 1 ∧ gI σ ja 1 ≤ 4 := ⟨by omega, by omega⟩
    skip
    unfold w_X16_records_8
    try simp only [forall_eq, rII, rIJ, rIP, rJJ, rJI, rJP, rPP, rPI, rPJ, g1, g2, g3, g4, g5, g6, g7, g8, Nat.reduceEqDiff, Nat.reduceAdd, false_and, and_false, true_and, and_true, reduceIte, nZ0, nZ1]
    refine ⟨ja, by exact hj.resolve_left (by assumption), hja, ?_⟩
    refine ⟨by (first | omega | with_reducible assumption | (unfold rng; omega) | (unfold rng; (repeat' split) <;> omega) | grind), ?_⟩
    refine s_X16_within g rσ (fun r16 p6 => ?_)
    obtain ⟨p6, p6b⟩ := p6
    have p6w : r16 = 1 → 0 ≤ v1 ∧ v1 ≤ ((gI σ ja 0) - 1) := fun e => win2 (by (first | omega | with_reducible assumption | (unfold rng; omega) | (unfold rng; (repeat' split) <;> omega) | grind)) (by (first | omega | with_reducible assumption | (unfold rng; omega) | (unfold rng; (repeat' split) <;> omega) | grind)) (by (first | omega | with_reducible assumption | (unfold rng; omega) | (unfold rng; (repeat' split) <;> omega) | grind)) (p6b e)
    try simp only [forall_eq, rII, rIJ, rIP, rJJ, rJI, rJP, rPP, rPI, rPJ, g1, g2, g3, g4, g5, g6, g7, g8, Nat.reduceEqDiff, Nat.reduceAdd, false_and, and_false, true_and, and_true, reduceIte, nZ0, nZ1]
    split
    · rename_i hc24
      skip
      unfold w_X16_records_31
      try simp only [forall_eq, rII, rIJ, rIP, rJJ, rJI, rJP, rPP, rPI, rPJ, g1, g2, g3, g4, g5, g6, g7, g8, Nat.reduceEqDiff, Nat.reduceAdd, false_and, and_false, true_and, and_true, reduceIte, nZ0, nZ1]
      have q7 := rσ.2.1 30; simp only [rgS] at q7
      split
      · rename_i hc35
        skip
        unfold w_X16_records_45
        try simp only [forall_eq, rII, rIJ, rIP, rJJ, rJI, rJP, rPP, rPI, rPJ, g1, g2, g3, g4, g5, g6, g7, g8, Nat.reduceEqDiff, Nat.reduceAdd, false_and, and_false, true_and, and_true, reduceIte, nZ0, nZ1]
        unfold w_X16_records_62
        try simp only [forall_eq, rII, rIJ, rIP, rJJ, rJI, rJP, rPP, rPI, rPJ, g1, g2, g3, g4, g5, g6, g7, g8, Nat.reduceEqDiff, Nat.reduceAdd, false_and, and_false, true_and, and_true, reduceIte, nZ0, nZ1]
        have L71 : ∀ (fu71 : Nat) (τ71 : Sg) (v4 : Int) (v5 : Int), Rg ra jx rm τ71 → Fr ra jx rm [] [0] σ τ71 → (0 ≤ v5 ∧ v5 ≤ 4000 ∧ 0 ≤ v4 ∧ v4 ≤ v5) → ((4000 - v5).toNat) < fu71 → wl_X16_records_71 ra jx rm Q X fu71 τ71 v1 v2 v4 v5 := by
          intro fu71
          induction fu71 with
          | zero => intro τ71 _ _ _ _ _ h9; omega
          | succ fu71 ih71 =>
            intro τ71 v4 v5 rτ71 fτ71 hi71 hm71
            unfold wl_X16_records_71
            have eτ71_98 := fτ71.1 98 (by decide)
            have eτ71_100 := fτ71.1 100 (by decide)
            have eτ71_102 := fτ71.1 102 (by decide)
            have sτ71_30 := fτ71.2.1 30 (by decide)
            have sτ71_32 := fτ71.2.1 32 (by decide)
            have sτ71_92 := fτ71.2.1 92 (by decide)
            have jτ71 := fτ71.2.2.1
            have pτ71 := fτ71.2.2.2
            unfold w_X16_records_71
            try simp only [forall_eq, rII, rIJ, rIP, rJJ, rJI, rJP, rPP, rPI, rPJ, g1, g2, g3, g4, g5, g6, g7, g8, Nat.reduceEqDiff, Nat.reduceAdd, false_and, and_false, true_and, and_true, reduceIte, nZ0, nZ1, eτ71_98.1, eτ71_98.2, eτ71_100.1, eτ71_100.2, eτ71_102.1, eτ71_102.2, sτ71_30.1, sτ71_30.2, sτ71_32.1, sτ71_32.2, sτ71_92.1, sτ71_92.2, fun a k => (jτ71 a k).1, fun a k => (jτ71 a k).2, pτ71]
            have q8 := rτ71.2.1 0; simp only [rgS] at q8
            split
            · rename_i hc75
              skip
              unfold w_X16_records_135
              try simp only [forall_eq, rII, rIJ, rIP, rJJ, rJI, rJP, rPP, rPI, rPJ, g1, g2, g3, g4, g5, g6, g7, g8, Nat.reduceEqDiff, Nat.reduceAdd, false_and, and_false, true_and, and_true, reduceIte, nZ0, nZ1, eτ71_98.1, eτ71_98.2, eτ71_100.1, eτ71_100.2, eτ71_102.1, eτ71_102.2, sτ71_30.1, sτ71_30.2, sτ71_32.1, sτ71_32.2, sτ71_92.1, sτ71_92.2, fun a k => (jτ71 a k).1, fun a k => (jτ71 a k).2, pτ71]
              refine hQ _ _ ?_ ?_ ?_
              · exact rτ71
              · exact fτ71
              · exact trivial
            · rename_i hc75
              skip
              unfold w_X16_records_78
              try simp only [forall_eq, rII, rIJ, rIP, rJJ, rJI, rJP, rPP, rPI, rPJ, g1, g2, g3, g4, g5, g6, g7, g8, Nat.reduceEqDiff, Nat.reduceAdd, false_and, and_false, true_and, and_true, reduceIte, nZ0, nZ1, eτ71_98.1, eτ71_98.2, eτ71_100.1, eτ71_100.2, eτ71_102.1, eτ71_102.2, sτ71_30.1, sτ71_30.2, sτ71_32.1, sτ71_32.2, sτ71_92.1, sτ71_92.2, fun a k => (jτ71 a k).1, fun a k => (jτ71 a k).2, pτ71]
              have q9 := rσ.2.1 92; simp only [rgS] at q9
              split
              · rename_i hc82
                skip
                unfold w_X16_records_135
                try simp only [forall_eq, rII, rIJ, rIP, rJJ, rJI, rJP, rPP, rPI, rPJ, g1, g2, g3, g4, g5, g6, g7, g8, Nat.reduceEqDiff, Nat.reduceAdd, false_and, and_false, true_and, and_true, reduceIte, nZ0, nZ1, eτ71_98.1, eτ71_98.2, eτ71_100.1, eτ71_100.2, eτ71_102.1, eτ71_102.2, sτ71_30.1, sτ71_30.2, sτ71_32.1, sτ71_32.2, sτ71_92.1, sτ71_92.2, fun a k => (jτ71 a k).1, fun a k => (jτ71 a k).2, pτ71]
                refine hQ _ _ ?_ ?_ ?_
                · exact rτ71
                · exact fτ71
                · exact trivial
              · rename_i hc82
                skip
                unfold w_X16_records_85
                try simp only [forall_eq, rII, rIJ, rIP, rJJ, rJI, rJP, rPP, rPI, rPJ, g1, g2, g3, g4, g5, g6, g7, g8, Nat.reduceEqDiff, Nat.reduceAdd, false_and, and_false, true_and, and_true, reduceIte, nZ0, nZ1, eτ71_98.1, eτ71_98.2, eτ71_100.1, eτ71_100.2, eτ71_102.1, eτ71_102.2, sτ71_30.1, sτ71_30.2, sτ71_32.1, sτ71_32.2, sτ71_92.1, sτ71_92.2, fun a k => (jτ71 a k).1, fun a k => (jτ71 a k).2, pτ71]
                have q10 := rσ.1 98 0; simp only [rgT] at q10
                split
                · rename_i hc93
                  skip
                  unfold w_X16_records_135
                  try simp only [forall_eq, rII, rIJ, rIP, rJJ, rJI, rJP, rPP, rPI, rPJ, g1, g2, g3, g4, g5, g6, g7, g8, Nat.reduceEqDiff, Nat.reduceAdd, false_and, and_false, true_and, and_true, reduceIte, nZ0, nZ1, eτ71_98.1, eτ71_98.2, eτ71_100.1, eτ71_100.2, eτ71_102.1, eτ71_102.2, sτ71_30.1, sτ71_30.2, sτ71_32.1, sτ71_32.2, sτ71_92.1, sτ71_92.2, fun a k => (jτ71 a k).1, fun a k => (jτ71 a k).2, pτ71]
                  refine hQ _ _ ?_ ?_ ?_
                  · exact rτ71
                  · exact fτ71
                  · exact trivial
                · rename_i hc93
                  skip
                  unfold w_X16_records_96
                  try simp only [forall_eq, rII, rIJ, rIP, rJJ, rJI, rJP, rPP, rPI, rPJ, g1, g2, g3, g4, g5, g6, g7, g8, Nat.reduceEqDiff, Nat.reduceAdd, false_and, and_false, true_and, and_true, reduceIte, nZ0, nZ1, eτ71_98.1, eτ71_98.2, eτ71_100.1, eτ71_100.2, eτ71_102.1, eτ71_102.2, sτ71_30.1, sτ71_30.2, sτ71_32.1, sτ71_32.2, sτ71_92.1, sτ71_92.2, fun a k => (jτ71 a k).1, fun a k => (jτ71 a k).2, pτ71]
                  refine ⟨by (first | omega | with_reducible assumption | (unfold rng; omega) | (unfold rng; (repeat' split) <;> omega) | grind), ?_⟩
                  have q11 := rσ.1 100 (v5.toNat); simp only [rgT] at q11
                  split
                  · rename_i hc106
                    skip
                    unfold w_X16_records_125
                    try simp only [forall_eq, rII, rIJ, rIP, rJJ, rJI, rJP, rPP, rPI, rPJ, g1, g2, g3, g4, g5, g6, g7, g8, Nat.reduceEqDiff, Nat.reduceAdd, false_and, and_false, true_and, and_true, reduceIte, nZ0, nZ1, eτ71_98.1, eτ71_98.2, eτ71_100.1, eτ71_100.2, eτ71_102.1, eτ71_102.2, sτ71_30.1, sτ71_30.2, sτ71_32.1, sτ71_32.2, sτ71_92.1, sτ71_92.2, fun a k => (jτ71 a k).1, fun a k => (jτ71 a k).2, pτ71]
                    unfold w_X16_records_126
                    try simp only [forall_eq, rII, rIJ, rIP, rJJ, rJI, rJP, rPP, rPI, rPJ, g1, g2, g3, g4, g5, g6, g7, g8, Nat.reduceEqDiff, Nat.reduceAdd, false_and, and_false, true_and, and_true, reduceIte, nZ0, nZ1, eτ71_98.1, eτ71_98.2, eτ71_100.1, eτ71_100.2, eτ71_102.1, eτ71_102.2, sτ71_30.1, sτ71_30.2, sτ71_32.1, sτ71_32.2, sτ71_92.1, sτ71_92.2, fun a k => (jτ71 a k).1, fun a k => (jτ71 a k).2, pτ71]
                    refine ⟨by (first | omega | with_reducible assumption | (unfold rng; omega) | (unfold rng; (repeat' split) <;> omega) | grind), ?_⟩
                    refine ⟨by (first | omega | with_reducible assumption | (unfold rng; omega) | (unfold rng; (repeat' split) <;> omega) | grind), ?_⟩
                    refine ih71 _ _ _ ?_ ?_ ?_ ?_
                    · exact rτ71
                    · exact fτ71
                    · (try simp only [rII, rIJ, rIP, rJJ, rJI, rJP, rPP, rPI, rPJ, g1, g2, g3, g4, g5, g6, g7, g8, Nat.reduceEqDiff, Nat.reduceAdd, false_and, and_false, true_and, and_true, reduceIte, nZ0, nZ1, eτ71_98.1, eτ71_98.2, eτ71_100.1, eτ71_100.2, eτ71_102.1, eτ71_102.2, sτ71_30.1, sτ71_30.2, sτ71_32.1, sτ71_32.2, sτ71_92.1, sτ71_92.2, fun a k => (jτ71 a k).1, fun a k => (jτ71 a k).2, pτ71]) <;> (first | omega | with_reducible assumption | (unfold rng; omega) | (unfold rng; (repeat' split) <;> omega) | grind)
                    · (try simp only [rII, rIJ, rIP, rJJ, rJI, rJP, rPP, rPI, rPJ, g1, g2, g3, g4, g5, g6, g7, g8, Nat.reduceEqDiff, Nat.reduceAdd, false_and, and_false, true_and, and_true, reduceIte, nZ0, nZ1, eτ71_98.1, eτ71_98.2, eτ71_100.1, eτ71_100.2, eτ71_102.1, eτ71_102.2, sτ71_30.1, sτ71_30.2, sτ71_32.1, sτ71_32.2, sτ71_92.1, sτ71_92.2, fun a k => (jτ71 a k).1, fun a k => (jτ71 a k).2, pτ71]) <;> (first | omega | with_reducible assumption | (unfold rng; omega) | (unfold rng; (repeat' split) <;> omega) | grind)
                  · rename_i hc106
                    skip
                    unfold w_X16_records_109
                    try simp only [forall_eq, rII, rIJ, rIP, rJJ, rJI, rJP, rPP, rPI, rPJ, g1, g2, g3, g4, g5, g6, g7, g8, Nat.reduceEqDiff, Nat.reduceAdd, false_and, and_false, true_and, and_true, reduceIte, nZ0, nZ1, eτ71_98.1, eτ71_98.2, eτ71_100.1, eτ71_100.2, eτ71_102.1, eτ71_102.2, sτ71_30.1, sτ71_30.2, sτ71_32.1, sτ71_32.2, sτ71_92.1, sτ71_92.2, fun a k => (jτ71 a k).1, fun a k => (jτ71 a k).2, pτ71]
                    refine ⟨by (first | omega | with_reducible assumption | (unfold rng; omega) | (unfold rng; (repeat' split) <;> omega) | grind), ?_⟩
                    split
                    · rename_i hc118
                      skip
                      unfold w_X16_records_125
                      try simp only [forall_eq, rII, rIJ, rIP, rJJ, rJI, rJP, rPP, rPI, rPJ, g1, g2, g3, g4, g5, g6, g7, g8, Nat.reduceEqDiff, Nat.reduceAdd, false_and, and_false, true_and, and_true, reduceIte, nZ0, nZ1, eτ71_98.1, eτ71_98.2, eτ71_100.1, eτ71_100.2, eτ71_102.1, eτ71_102.2, sτ71_30.1, sτ71_30.2, sτ71_32.1, sτ71_32.2, sτ71_92.1, sτ71_92.2, fun a k => (jτ71 a k).1, fun a k => (jτ71 a k).2, pτ71]
                      unfold w_X16_records_126
                      try simp only [forall_eq, rII, rIJ, rIP, rJJ, rJI, rJP, rPP, rPI, rPJ, g1, g2, g3, g4, g5, g6, g7, g8, Nat.reduceEqDiff, Nat.reduceAdd, false_and, and_false, true_and, and_true, reduceIte, nZ0, nZ1, eτ71_98.1, eτ71_98.2, eτ71_100.1, eτ71_100.2, eτ71_102.1, eτ71_102.2, sτ71_30.1, sτ71_30.2, sτ71_32.1, sτ71_32.2, sτ71_92.1, sτ71_92.2, fun a k => (jτ71 a k).1, fun a k => (jτ71 a k).2, pτ71]
                      refine ⟨by (first | omega | with_reducible assumption | (unfold rng; omega) | (unfold rng; (repeat' split) <;> omega) | grind), ?_⟩
                      refine ⟨by (first | omega | with_reducible assumption | (unfold rng; omega) | (unfold rng; (repeat' split) <;> omega) | grind), ?_⟩
                      refine ih71 _ _ _ ?_ ?_ ?_ ?_
                      · exact rτ71
                      · exact fτ71
                      · (try simp only [rII, rIJ, rIP, rJJ, rJI, rJP, rPP, rPI, rPJ, g1, g2, g3, g4, g5, g6, g7, g8, Nat.reduceEqDiff, Nat.reduceAdd, false_and, and_false, true_and, and_true, reduceIte, nZ0, nZ1, eτ71_98.1, eτ71_98.2, eτ71_100.1, eτ71_100.2, eτ71_102.1, eτ71_102.2, sτ71_30.1, sτ71_30.2, sτ71_32.1, sτ71_32.2, sτ71_92.1, sτ71_92.2, fun a k => (jτ71 a k).1, fun a k => (jτ71 a k).2, pτ71]) <;> (first | omega | with_reducible assumption | (unfold rng; omega) | (unfold rng; (repeat' split) <;> omega) | grind)
                      · (try simp only [rII, rIJ, rIP, rJJ, rJI, rJP, rPP, rPI, rPJ, g1, g2, g3, g4, g5, g6, g7, g8, Nat.reduceEqDiff, Nat.reduceAdd, false_and, and_false, true_and, and_true, reduceIte, nZ0, nZ1, eτ71_98.1, eτ71_98.2, eτ71_100.1, eτ71_100.2, eτ71_102.1, eτ71_102.2, sτ71_30.1, sτ71_30.2, sτ71_32.1, sτ71_32.2, sτ71_92.1, sτ71_92.2, fun a k => (jτ71 a k).1, fun a k => (jτ71 a k).2, pτ71]) <;> (first | omega | with_reducible assumption | (unfold rng; omega) | (unfold rng; (repeat' split) <;> omega) | grind)
                    · rename_i hc118
                      skip
                      unfold w_X16_records_121
                      try simp only [forall_eq, rII, rIJ, rIP, rJJ, rJI, rJP, rPP, rPI, rPJ, g1, g2, g3, g4, g5, g6, g7, g8, Nat.reduceEqDiff, Nat.reduceAdd, false_and, and_false, true_and, and_true, reduceIte, nZ0, nZ1, eτ71_98.1, eτ71_98.2, eτ71_100.1, eτ71_100.2, eτ71_102.1, eτ71_102.2, sτ71_30.1, sτ71_30.2, sτ71_32.1, sτ71_32.2, sτ71_92.1, sτ71_92.2, fun a k => (jτ71 a k).1, fun a k => (jτ71 a k).2, pτ71]
                      unfold w_X16_records_126
                      try simp only [forall_eq, rII, rIJ, rIP, rJJ, rJI, rJP, rPP, rPI, rPJ, g1, g2, g3, g4, g5, g6, g7, g8, Nat.reduceEqDiff, Nat.reduceAdd, false_and, and_false, true_and, and_true, reduceIte, nZ0, nZ1, eτ71_98.1, eτ71_98.2, eτ71_100.1, eτ71_100.2, eτ71_102.1, eτ71_102.2, sτ71_30.1, sτ71_30.2, sτ71_32.1, sτ71_32.2, sτ71_92.1, sτ71_92.2, fun a k => (jτ71 a k).1, fun a k => (jτ71 a k).2, pτ71]
                      refine ⟨by (first | omega | with_reducible assumption | (unfold rng; omega) | (unfold rng; (repeat' split) <;> omega) | grind), ?_⟩
                      refine ⟨by (first | omega | with_reducible assumption | (unfold rng; omega) | (unfold rng; (repeat' split) <;> omega) | grind), ?_⟩
                      refine ih71 _ _ _ ?_ ?_ ?_ ?_
                      · exact rτ71
                      · exact fτ71
                      · (try simp only [rII, rIJ, rIP, rJJ, rJI, rJP, rPP, rPI, rPJ, g1, g2, g3, g4, g5, g6, g7, g8, Nat.reduceEqDiff, Nat.reduceAdd, false_and, and_false, true_and, and_true, reduceIte, nZ0, nZ1, eτ71_98.1, eτ71_98.2, eτ71_100.1, eτ71_100.2, eτ71_102.1, eτ71_102.2, sτ71_30.1, sτ71_30.2, sτ71_32.1, sτ71_32.2, sτ71_92.1, sτ71_92.2, fun a k => (jτ71 a k).1, fun a k => (jτ71 a k).2, pτ71]) <;> (first | omega | with_reducible assumption | (unfold rng; omega) | (unfold rng; (repeat' split) <;> omega) | grind)
                      · (try simp only [rII, rIJ, rIP, rJJ, rJI, rJP, rPP, rPI, rPJ, g1, g2, g3, g4, g5, g6, g7, g8, Nat.reduceEqDiff, Nat.reduceAdd, false_and, and_false, true_and, and_true, reduceIte, nZ0, nZ1, eτ71_98.1, eτ71_98.2, eτ71_100.1, eτ71_100.2, eτ71_102.1, eτ71_102.2, sτ71_30.1, sτ71_30.2, sτ71_32.1, sτ71_32.2, sτ71_92.1, sτ71_92.2, fun a k => (jτ71 a k).1, fun a k => (jτ71 a k).2, pτ71]) <;> (first | omega | with_reducible assumption | (unfold rng; omega) | (unfold rng; (repeat' split) <;> omega) | grind)
        refine ⟨_, L71 _ _ _ _ ?_ ?_ ?_ (Nat.lt_succ_self _)⟩
        · refine Rg.sI g ?_ (by simp only [rgS]; first | with_reducible exact nZ_rng _ | with_reducible exact nB_rng _ | with_reducible exact wr_rng _ | with_reducible exact i32any _ | (first | omega | with_reducible assumption | (unfold rng; omega) | (unfold rng; (repeat' split) <;> omega) | grind)); exact rσ
        · refine Fr.sI g ?_ (by decide); exact fσ
        · (try simp only [rII, rIJ, rIP, rJJ, rJI, rJP, rPP, rPI, rPJ, g1, g2, g3, g4, g5, g6, g7, g8, Nat.reduceEqDiff, Nat.reduceAdd, false_and, and_false, true_and, and_true, reduceIte, nZ0, nZ1]) <;> (first | omega | with_reducible assumption | (unfold rng; omega) | (unfold rng; (repeat' split) <;> omega) | grind)
      · rename_i hc35
        skip
        unfold w_X16_records_38
        try simp only [forall_eq, rII, rIJ, rIP, rJJ, rJI, rJP, rPP, rPI, rPJ, g1, g2, g3, g4, g5, g6, g7, g8, Nat.reduceEqDiff, Nat.reduceAdd, false_and, and_false, true_and, and_true, reduceIte, nZ0, nZ1]
        have q12 := rσ.2.1 32; simp only [rgS] at q12
        split
        · rename_i hc42
          skip
          unfold w_X16_records_49
          try simp only [forall_eq, rII, rIJ, rIP, rJJ, rJI, rJP, rPP, rPI, rPJ, g1, g2, g3, g4, g5, g6, g7, g8, Nat.reduceEqDiff, Nat.reduceAdd, false_and, and_false, true_and, and_true, reduceIte, nZ0, nZ1]
          refine s_X16_isKeyed g rσ (by exact hjj) hja (by (try simp only [rII, rIJ, rIP, rJJ, rJI, rJP, rPP, rPI, rPJ, g1, g2, g3, g4, g5, g6, g7, g8, Nat.reduceEqDiff, Nat.reduceAdd, false_and, and_false, true_and, and_true, reduceIte, nZ0, nZ1]) <;> (first | omega | with_reducible assumption | (unfold rng; omega) | (unfold rng; (repeat' split) <;> omega) | grind)) (fun r19 p13 => ?_)
          try simp only [forall_eq, rII, rIJ, rIP, rJJ, rJI, rJP, rPP, rPI, rPJ, g1, g2, g3, g4, g5, g6, g7, g8, Nat.reduceEqDiff, Nat.reduceAdd, false_and, and_false, true_and, and_true, reduceIte, nZ0, nZ1]
          split
          · rename_i hc54
            skip
            unfold w_X16_records_61
            try simp only [forall_eq, rII, rIJ, rIP, rJJ, rJI, rJP, rPP, rPI, rPJ, g1, g2, g3, g4, g5, g6, g7, g8, Nat.reduceEqDiff, Nat.reduceAdd, false_and, and_false, true_and, and_true, reduceIte, nZ0, nZ1]
            unfold w_X16_records_62
            try simp only [forall_eq, rII, rIJ, rIP, rJJ, rJI, rJP, rPP, rPI, rPJ, g1, g2, g3, g4, g5, g6, g7, g8, Nat.reduceEqDiff, Nat.reduceAdd, false_and, and_false, true_and, and_true, reduceIte, nZ0, nZ1]
            have L71 : ∀ (fu71 : Nat) (τ71 : Sg) (v4 : Int) (v5 : Int), Rg ra jx rm τ71 → Fr ra jx rm [] [0] σ τ71 → (0 ≤ v5 ∧ v5 ≤ 4000 ∧ 0 ≤ v4 ∧ v4 ≤ v5) → ((4000 - v5).toNat) < fu71 → wl_X16_records_71 ra jx rm Q X fu71 τ71 v1 v2 v4 v5 := by
              intro fu71
              induction fu71 with
              | zero => intro τ71 _ _ _ _ _ h9; omega
              | succ fu71 ih71 =>
                intro τ71 v4 v5 rτ71 fτ71 hi71 hm71
                unfold wl_X16_records_71
                have eτ71_98 := fτ71.1 98 (by decide)
                have eτ71_100 := fτ71.1 100 (by decide)
                have eτ71_102 := fτ71.1 102 (by decide)
                have sτ71_30 := fτ71.2.1 30 (by decide)
                have sτ71_32 := fτ71.2.1 32 (by decide)
                have sτ71_92 := fτ71.2.1 92 (by decide)
                have jτ71 := fτ71.2.2.1
                have pτ71 := fτ71.2.2.2
                unfold w_X16_records_71
                try simp only [forall_eq, rII, rIJ, rIP, rJJ, rJI, rJP, rPP, rPI, rPJ, g1, g2, g3, g4, g5, g6, g7, g8, Nat.reduceEqDiff, Nat.reduceAdd, false_and, and_false, true_and, and_true, reduceIte, nZ0, nZ1, eτ71_98.1, eτ71_98.2, eτ71_100.1, eτ71_100.2, eτ71_102.1, eτ71_102.2, sτ71_30.1, sτ71_30.2, sτ71_32.1, sτ71_32.2, sτ71_92.1, sτ71_92.2, fun a k => (jτ71 a k).1, fun a k => (jτ71 a k).2, pτ71]
                have q14 := rτ71.2.1 0; simp only [rgS] at q14
                split
                · rename_i hc75
                  skip
                  unfold w_X16_records_135
                  try simp only [forall_eq, rII, rIJ, rIP, rJJ, rJI, rJP, rPP, rPI, rPJ, g1, g2, g3, g4, g5, g6, g7, g8, Nat.reduceEqDiff, Nat.reduceAdd, false_and, and_false, true_and, and_true, reduceIte, nZ0, nZ1, eτ71_98.1, eτ71_98.2, eτ71_100.1, eτ71_100.2, eτ71_102.1, eτ71_102.2, sτ71_30.1, sτ71_30.2, sτ71_32.1, sτ71_32.2, sτ71_92.1, sτ71_92.2, fun a k => (jτ71 a k).1, fun a k => (jτ71 a k).2, pτ71]
                  refine hQ _ _ ?_ ?_ ?_
                  · exact rτ71
                  · exact fτ71
                  · exact trivial
                · rename_i hc75
                  skip
                  unfold w_X16_records_78
                  try simp only [forall_eq, rII, rIJ, rIP, rJJ, rJI, rJP, rPP, rPI, rPJ, g1, g2, g3, g4, g5, g6, g7, g8, Nat.reduceEqDiff, Nat.reduceAdd, false_and, and_false, true_and, and_true, reduceIte, nZ0, nZ1, eτ71_98.1, eτ71_98.2, eτ71_100.1, eτ71_100.2, eτ71_102.1, eτ71_102.2, sτ71_30.1, sτ71_30.2, sτ71_32.1, sτ71_32.2, sτ71_92.1, sτ71_92.2, fun a k => (jτ71 a k).1, fun a k => (jτ71 a k).2, pτ71]
                  have q15 := rσ.2.1 92; simp only [rgS] at q15
                  split
                  · rename_i hc82
                    skip
                    unfold w_X16_records_135
                    try simp only [forall_eq, rII, rIJ, rIP, rJJ, rJI, rJP, rPP, rPI, rPJ, g1, g2, g3, g4, g5, g6, g7, g8, Nat.reduceEqDiff, Nat.reduceAdd, false_and, and_false, true_and, and_true, reduceIte, nZ0, nZ1, eτ71_98.1, eτ71_98.2, eτ71_100.1, eτ71_100.2, eτ71_102.1, eτ71_102.2, sτ71_30.1, sτ71_30.2, sτ71_32.1, sτ71_32.2, sτ71_92.1, sτ71_92.2, fun a k => (jτ71 a k).1, fun a k => (jτ71 a k).2, pτ71]
                    refine hQ _ _ ?_ ?_ ?_
                    · exact rτ71
                    · exact fτ71
                    · exact trivial
                  · rename_i hc82
                    skip
                    unfold w_X16_records_85
                    try simp only [forall_eq, rII, rIJ, rIP, rJJ, rJI, rJP, rPP, rPI, rPJ, g1, g2, g3, g4, g5, g6, g7, g8, Nat.reduceEqDiff, Nat.reduceAdd, false_and, and_false, true_and, and_true, reduceIte, nZ0, nZ1, eτ71_98.1, eτ71_98.2, eτ71_100.1, eτ71_100.2, eτ71_102.1, eτ71_102.2, sτ71_30.1, sτ71_30.2, sτ71_32.1, sτ71_32.2, sτ71_92.1, sτ71_92.2, fun a k => (jτ71 a k).1, fun a k => (jτ71 a k).2, pτ71]
                    have q16 := rσ.1 98 0; simp only [rgT] at q16
                    split
                    · rename_i hc93
                      skip
                      unfold w_X16_records_135
                      try simp only [forall_eq, rII, rIJ, rIP, rJJ, rJI, rJP, rPP, rPI, rPJ, g1, g2, g3, g4, g5, g6, g7, g8, Nat.reduceEqDiff, Nat.reduceAdd, false_and, and_false, true_and, and_true, reduceIte, nZ0, nZ1, eτ71_98.1, eτ71_98.2, eτ71_100.1, eτ71_100.2, eτ71_102.1, eτ71_102.2, sτ71_30.1, sτ71_30.2, sτ71_32.1, sτ71_32.2, sτ71_92.1, sτ71_92.2, fun a k => (jτ71 a k).1, fun a k => (jτ71 a k).2, pτ71]
                      refine hQ _ _ ?_ ?_ ?_
                      · exact rτ71
                      · exact fτ71
                      · exact trivial
                    · rename_i hc93
                      skip
                      unfold w_X16_records_96
                      try simp only [forall_eq, rII, rIJ, rIP, rJJ, rJI, rJP, rPP, rPI, rPJ, g1, g2, g3, g4, g5, g6, g7, g8, Nat.reduceEqDiff, Nat.reduceAdd, false_and, and_false, true_and, and_true, reduceIte, nZ0, nZ1, eτ71_98.1, eτ71_98.2, eτ71_100.1, eτ71_100.2, eτ71_102.1, eτ71_102.2, sτ71_30.1, sτ71_30.2, sτ71_32.1, sτ71_32.2, sτ71_92.1, sτ71_92.2, fun a k => (jτ71 a k).1, fun a k => (jτ71 a k).2, pτ71]
                      refine ⟨by (first | omega | with_reducible assumption | (unfold rng; omega) | (unfold rng; (repeat' split) <;> omega) | grind), ?_⟩
                      have q17 := rσ.1 100 (v5.toNat); simp only [rgT] at q17
                      split
                      · rename_i hc106
                        skip
                        unfold w_X16_records_125
                        try simp only [forall_eq, rII, rIJ, rIP, rJJ, rJI, rJP, rPP, rPI, rPJ, g1, g2, g3, g4, g5, g6, g7, g8, Nat.reduceEqDiff, Nat.reduceAdd, false_and, and_false, true_and, and_true, reduceIte, nZ0, nZ1, eτ71_98.1, eτ71_98.2, eτ71_100.1, eτ71_100.2, eτ71_102.1, eτ71_102.2, sτ71_30.1, sτ71_30.2, sτ71_32.1, sτ71_32.2, sτ71_92.1, sτ71_92.2, fun a k => (jτ71 a k).1, fun a k => (jτ71 a k).2, pτ71]
                        unfold w_X16_records_126
                        try simp only [forall_eq, rII, rIJ, rIP, rJJ, rJI, rJP, rPP, rPI, rPJ, g1, g2, g3, g4, g5, g6, g7, g8, Nat.reduceEqDiff, Nat.reduceAdd, false_and, and_false, true_and, and_true, reduceIte, nZ0, nZ1, eτ71_98.1, eτ71_98.2, eτ71_100.1, eτ71_100.2, eτ71_102.1, eτ71_102.2, sτ71_30.1, sτ71_30.2, sτ71_32.1, sτ71_32.2, sτ71_92.1, sτ71_92.2, fun a k => (jτ71 a k).1, fun a k => (jτ71 a k).2, pτ71]
                        refine ⟨by (first | omega | with_reducible assumption | (unfold rng; omega) | (unfold rng; (repeat' split) <;> omega) | grind), ?_⟩
                        refine ⟨by (first | omega | with_reducible assumption | (unfold rng; omega) | (unfold rng; (repeat' split) <;> omega) | grind), ?_⟩
                        refine ih71 _ _ _ ?_ ?_ ?_ ?_
                        · exact rτ71
                        · exact fτ71
                        · (try simp only [rII, rIJ, rIP, rJJ, rJI, rJP, rPP, rPI, rPJ, g1, g2, g3, g4, g5, g6, g7, g8, Nat.reduceEqDiff, Nat.reduceAdd, false_and, and_false, true_and, and_true, reduceIte, nZ0, nZ1, eτ71_98.1, eτ71_98.2, eτ71_100.1, eτ71_100.2, eτ71_102.1, eτ71_102.2, sτ71_30.1, sτ71_30.2, sτ71_32.1, sτ71_32.2, sτ71_92.1, sτ71_92.2, fun a k => (jτ71 a k).1, fun a k => (jτ71 a k).2, pτ71]) <;> (first | omega | with_reducible assumption | (unfold rng; omega) | (unfold rng; (repeat' split) <;> omega) | grind)
                        · (try simp only [rII, rIJ, rIP, rJJ, rJI, rJP, rPP, rPI, rPJ, g1, g2, g3, g4, g5, g6, g7, g8, Nat.reduceEqDiff, Nat.reduceAdd, false_and, and_false, true_and, and_true, reduceIte, nZ0, nZ1, eτ71_98.1, eτ71_98.2, eτ71_100.1, eτ71_100.2, eτ71_102.1, eτ71_102.2, sτ71_30.1, sτ71_30.2, sτ71_32.1, sτ71_32.2, sτ71_92.1, sτ71_92.2, fun a k => (jτ71 a k).1, fun a k => (jτ71 a k).2, pτ71]) <;> (first | omega | with_reducible assumption | (unfold rng; omega) | (unfold rng; (repeat' split) <;> omega) | grind)
                      · rename_i hc106
                        skip
                        unfold w_X16_records_109
                        try simp only [forall_eq, rII, rIJ, rIP, rJJ, rJI, rJP, rPP, rPI, rPJ, g1, g2, g3, g4, g5, g6, g7, g8, Nat.reduceEqDiff, Nat.reduceAdd, false_and, and_false, true_and, and_true, reduceIte, nZ0, nZ1, eτ71_98.1, eτ71_98.2, eτ71_100.1, eτ71_100.2, eτ71_102.1, eτ71_102.2, sτ71_30.1, sτ71_30.2, sτ71_32.1, sτ71_32.2, sτ71_92.1, sτ71_92.2, fun a k => (jτ71 a k).1, fun a k => (jτ71 a k).2, pτ71]
                        refine ⟨by (first | omega | with_reducible assumption | (unfold rng; omega) | (unfold rng; (repeat' split) <;> omega) | grind), ?_⟩
                        split
                        · rename_i hc118
                          skip
                          unfold w_X16_records_125
                          try simp only [forall_eq, rII, rIJ, rIP, rJJ, rJI, rJP, rPP, rPI, rPJ, g1, g2, g3, g4, g5, g6, g7, g8, Nat.reduceEqDiff, Nat.reduceAdd, false_and, and_false, true_and, and_true, reduceIte, nZ0, nZ1, eτ71_98.1, eτ71_98.2, eτ71_100.1, eτ71_100.2, eτ71_102.1, eτ71_102.2, sτ71_30.1, sτ71_30.2, sτ71_32.1, sτ71_32.2, sτ71_92.1, sτ71_92.2, fun a k => (jτ71 a k).1, fun a k => (jτ71 a k).2, pτ71]
                          unfold w_X16_records_126
                          try simp only [forall_eq, rII, rIJ, rIP, rJJ, rJI, rJP, rPP, rPI, rPJ, g1, g2, g3, g4, g5, g6, g7, g8, Nat.reduceEqDiff, Nat.reduceAdd, false_and, and_false, true_and, and_true, reduceIte, nZ0, nZ1, eτ71_98.1, eτ71_98.2, eτ71_100.1, eτ71_100.2, eτ71_102.1, eτ71_102.2, sτ71_30.1, sτ71_30.2, sτ71_32.1, sτ71_32.2, sτ71_92.1, sτ71_92.2, fun a k => (jτ71 a k).1, fun a k => (jτ71 a k).2, pτ71]
                          refine ⟨by (first | omega | with_reducible assumption | (unfold rng; omega) | (unfold rng; (repeat' split) <;> omega) | grind), ?_⟩
                          refine ⟨by (first | omega | with_reducible assumption | (unfold rng; omega) | (unfold rng; (repeat' split) <;> omega) | grind), ?_⟩
                          refine ih71 _ _ _ ?_ ?_ ?_ ?_
                          · exact rτ71
                          · exact fτ71
                          · (try simp only [rII, rIJ, rIP, rJJ, rJI, rJP, rPP, rPI, rPJ, g1, g2, g3, g4, g5, g6, g7, g8, Nat.reduceEqDiff, Nat.reduceAdd, false_and, and_false, true_and, and_true, reduceIte, nZ0, nZ1, eτ71_98.1, eτ71_98.2, eτ71_100.1, eτ71_100.2, eτ71_102.1, eτ71_102.2, sτ71_30.1, sτ71_30.2, sτ71_32.1, sτ71_32.2, sτ71_92.1, sτ71_92.2, fun a k => (jτ71 a k).1, fun a k => (jτ71 a k).2, pτ71]) <;> (first | omega | with_reducible assumption | (unfold rng; omega) | (unfold rng; (repeat' split) <;> omega) | grind)
                          · (try simp only [rII, rIJ, rIP, rJJ, rJI, rJP, rPP, rPI, rPJ, g1, g2, g3, g4, g5, g6, g7, g8, Nat.reduceEqDiff, Nat.reduceAdd, false_and, and_false, true_and, and_true, reduceIte, nZ0, nZ1, eτ71_98.1, eτ71_98.2, eτ71_100.1, eτ71_100.2, eτ71_102.1, eτ71_102.2, sτ71_30.1, sτ71_30.2, sτ71_32.1, sτ71_32.2, sτ71_92.1, sτ71_92.2, fun a k => (jτ71 a k).1, fun a k => (jτ71 a k).2, pτ71]) <;> (first | omega | with_reducible assumption | (unfold rng; omega) | (unfold rng; (repeat' split) <;> omega) | grind)
                        · rename_i hc118
                          skip
                          unfold w_X16_records_121
                          try simp only [forall_eq, rII, rIJ, rIP, rJJ, rJI, rJP, rPP, rPI, rPJ, g1, g2, g3, g4, g5, g6, g7, g8, Nat.reduceEqDiff, Nat.reduceAdd, false_and, and_false, true_and, and_true, reduceIte, nZ0, nZ1, eτ71_98.1, eτ71_98.2, eτ71_100.1, eτ71_100.2, eτ71_102.1, eτ71_102.2, sτ71_30.1, sτ71_30.2, sτ71_32.1, sτ71_32.2, sτ71_92.1, sτ71_92.2, fun a k => (jτ71 a k).1, fun a k => (jτ71 a k).2, pτ71]
                          unfold w_X16_records_126
                          try simp only [forall_eq, rII, rIJ, rIP, rJJ, rJI, rJP, rPP, rPI, rPJ, g1, g2, g3, g4, g5, g6, g7, g8, Nat.reduceEqDiff, Nat.reduceAdd, false_and, and_false, true_and, and_true, reduceIte, nZ0, nZ1, eτ71_98.1, eτ71_98.2, eτ71_100.1, eτ71_100.2, eτ71_102.1, eτ71_102.2, sτ71_30.1, sτ71_30.2, sτ71_32.1, sτ71_32.2, sτ71_92.1, sτ71_92.2, fun a k => (jτ71 a k).1, fun a k => (jτ71 a k).2, pτ71]
                          refine ⟨by (first | omega | with_reducible assumption | (unfold rng; omega) | (unfold rng; (repeat' split) <;> omega) | grind), ?_⟩
                          refine ⟨by (first | omega | with_reducible assumption | (unfold rng; omega) | (unfold rng; (repeat' split) <;> omega) | grind), ?_⟩
                          refine ih71 _ _ _ ?_ ?_ ?_ ?_
                          · exact rτ71
                          · exact fτ71
                          · (try simp only [rII, rIJ, rIP, rJJ, rJI, rJP, rPP, rPI, rPJ, g1, g2, g3, g4, g5, g6, g7, g8, Nat.reduceEqDiff, Nat.reduceAdd, false_and, and_false, true_and, and_true, reduceIte, nZ0, nZ1, eτ71_98.1, eτ71_98.2, eτ71_100.1, eτ71_100.2, eτ71_102.1, eτ71_102.2, sτ71_30.1, sτ71_30.2, sτ71_32.1, sτ71_32.2, sτ71_92.1, sτ71_92.2, fun a k => (jτ71 a k).1, fun a k => (jτ71 a k).2, pτ71]) <;> (first | omega | with_reducible assumption | (unfold rng; omega) | (unfold rng; (repeat' split) <;> omega) | grind)
                          · (try simp only [rII, rIJ, rIP, rJJ, rJI, rJP, rPP, rPI, rPJ, g1, g2, g3, g4, g5, g6, g7, g8, Nat.reduceEqDiff, Nat.reduceAdd, false_and, and_false, true_and, and_true, reduceIte, nZ0, nZ1, eτ71_98.1, eτ71_98.2, eτ71_100.1, eτ71_100.2, eτ71_102.1, eτ71_102.2, sτ71_30.1, sτ71_30.2, sτ71_32.1, sτ71_32.2, sτ71_92.1, sτ71_92.2, fun a k => (jτ71 a k).1, fun a k => (jτ71 a k).2, pτ71]) <;> (first | omega | with_reducible assumption | (unfold rng; omega) | (unfold rng; (repeat' split) <;> omega) | grind)
            refine ⟨_, L71 _ _ _ _ ?_ ?_ ?_ (Nat.lt_succ_self _)⟩
            · refine Rg.sI g ?_ (by simp only [rgS]; first | with_reducible exact nZ_rng _ | with_reducible exact nB_rng _ | with_reducible exact wr_rng _ | with_reducible exact i32any _ | (first | omega | with_reducible assumption | (unfold rng; omega) | (unfold rng; (repeat' split) <;> omega) | grind)); exact rσ
            · refine Fr.sI g ?_ (by decide); exact fσ
            · (try simp only [rII, rIJ, rIP, rJJ, rJI, rJP, rPP, rPI, rPJ, g1, g2, g3, g4, g5, g6, g7, g8, Nat.reduceEqDiff, Nat.reduceAdd, false_and, and_false, true_and, and_true, reduceIte, nZ0, nZ1]) <;> (first | omega | with_reducible assumption | (unfold rng; omega) | (unfold rng; (repeat' split) <;> omega) | grind)
          · rename_i hc54
            skip
            unfold w_X16_records_57
            try simp only [forall_eq, rII, rIJ, rIP, rJJ, rJI, rJP, rPP, rPI, rPJ, g1, g2, g3, g4, g5, g6, g7, g8, Nat.reduceEqDiff, Nat.reduceAdd, false_and, and_false, true_and, and_true, reduceIte, nZ0, nZ1]
            unfold w_X16_records_62
            try simp only [forall_eq, rII, rIJ, rIP, rJJ, rJI, rJP, rPP, rPI, rPJ, g1, g2, g3, g4, g5, g6, g7, g8, Nat.reduceEqDiff, Nat.reduceAdd, false_and, and_false, true_and, and_true, reduceIte, nZ0, nZ1]
            have L71 : ∀ (fu71 : Nat) (τ71 : Sg) (v4 : Int) (v5 : Int), Rg ra jx rm τ71 → Fr ra jx rm [] [0] σ τ71 → (0 ≤ v5 ∧ v5 ≤ 4000 ∧ 0 ≤ v4 ∧ v4 ≤ v5) → ((4000 - v5).toNat) < fu71 → wl_X16_records_71 ra jx rm Q X fu71 τ71 v1 v2 v4 v5 := by
              intro fu71
              induction fu71 with
              | zero => intro τ71 _ _ _ _ _ h9; omega
              | succ fu71 ih71 =>
                intro τ71 v4 v5 rτ71 fτ71 hi71 hm71
                unfold wl_X16_records_71
                have eτ71_98 := fτ71.1 98 (by decide)
                have eτ71_100 := fτ71.1 100 (by decide)
                have eτ71_102 := fτ71.1 102 (by decide)
                have sτ71_30 := fτ71.2.1 30 (by decide)
                have sτ71_32 := fτ71.2.1 32 (by decide)
                have sτ71_92 := fτ71.2.1 92 (by decide)
                have jτ71 := fτ71.2.2.1
                have pτ71 := fτ71.2.2.2
                unfold w_X16_records_71
                try simp only [forall_eq, rII, rIJ, rIP, rJJ, rJI, rJP, rPP, rPI, rPJ, g1, g2, g3, g4, g5, g6, g7, g8, Nat.reduceEqDiff, Nat.reduceAdd, false_and, and_false, true_and, and_true, reduceIte, nZ0, nZ1, eτ71_98.1, eτ71_98.2, eτ71_100.1, eτ71_100.2, eτ71_102.1, eτ71_102.2, sτ71_30.1, sτ71_30.2, sτ71_32.1, sτ71_32.2, sτ71_92.1, sτ71_92.2, fun a k => (jτ71 a k).1, fun a k => (jτ71 a k).2, pτ71]
                have q18 := rτ71.2.1 0; simp only [rgS] at q18
                split
                · rename_i hc75
                  skip
                  unfold w_X16_records_135
                  try simp only [forall_eq, rII, rIJ, rIP, rJJ, rJI, rJP, rPP, rPI, rPJ, g1, g2, g3, g4, g5, g6, g7, g8, Nat.reduceEqDiff, Nat.reduceAdd, false_and, and_false, true_and, and_true, reduceIte, nZ0, nZ1, eτ71_98.1, eτ71_98.2, eτ71_100.1, eτ71_100.2, eτ71_102.1, eτ71_102.2, sτ71_30.1, sτ71_30.2, sτ71_32.1, sτ71_32.2, sτ71_92.1, sτ71_92.2, fun a k => (jτ71 a k).1, fun a k => (jτ71 a k).2, pτ71]
                  refine hQ _ _ ?_ ?_ ?_
                  · exact rτ71
                  · exact fτ71
                  · exact trivial
                · rename_i hc75
                  skip
                  unfold w_X16_records_78
                  try simp only [forall_eq, rII, rIJ, rIP, rJJ, rJI, rJP, rPP, rPI, rPJ, g1, g2, g3, g4, g5, g6, g7, g8, Nat.reduceEqDiff, Nat.reduceAdd, false_and, and_false, true_and, and_true, reduceIte, nZ0, nZ1, eτ71_98.1, eτ71_98.2, eτ71_100.1, eτ71_100.2, eτ71_102.1, eτ71_102.2, sτ71_30.1, sτ71_30.2, sτ71_32.1, sτ71_32.2, sτ71_92.1, sτ71_92.2, fun a k => (jτ71 a k).1, fun a k => (jτ71 a k).2, pτ71]
                  have q19 := rσ.2.1 92; simp only [rgS] at q19
                  split
                  · rename_i hc82
                    skip
                    unfold w_X16_records_135
                    try simp only [forall_eq, rII, rIJ, rIP, rJJ, rJI, rJP, rPP, rPI, rPJ, g1, g2, g3, g4, g5, g6, g7, g8, Nat.reduceEqDiff, Nat.reduceAdd, false_and, and_false, true_and, and_true, reduceIte, nZ0, nZ1, eτ71_98.1, eτ71_98.2, eτ71_100.1, eτ71_100.2, eτ71_102.1, eτ71_102.2, sτ71_30.1, sτ71_30.2, sτ71_32.1, sτ71_32.2, sτ71_92.1, sτ71_92.2, fun a k => (jτ71 a k).1, fun a k => (jτ71 a k).2, pτ71]
                    refine hQ _ _ ?_ ?_ ?_
                    · exact rτ71
                    · exact fτ71
                    · exact trivial
                  · rename_i hc82
                    skip
                    unfold w_X16_records_85
                    try simp only [forall_eq, rII, rIJ, rIP, rJJ, rJI, rJP, rPP, rPI, rPJ, g1, g2, g3, g4, g5, g6, g7, g8, Nat.reduceEqDiff, Nat.reduceAdd, false_and, and_false, true_and, and_true, reduceIte, nZ0, nZ1, eτ71_98.1, eτ71_98.2, eτ71_100.1, eτ71_100.2, eτ71_102.1, eτ71_102.2, sτ71_30.1, sτ71_30.2, sτ71_32.1, sτ71_32.2, sτ71_92.1, sτ71_92.2, fun a k => (jτ71 a k).1, fun a k => (jτ71 a k).2, pτ71]
                    have q20 := rσ.1 98 0; simp only [rgT] at q20
                    split
                    · rename_i hc93
                      skip
                      unfold w_X16_records_135
                      try simp only [forall_eq, rII, rIJ, rIP, rJJ, rJI, rJP, rPP, rPI, rPJ, g1, g2, g3, g4, g5, g6, g7, g8, Nat.reduceEqDiff, Nat.reduceAdd, false_and, and_false, true_and, and_true, reduceIte, nZ0, nZ1, eτ71_98.1, eτ71_98.2, eτ71_100.1, eτ71_100.2, eτ71_102.1, eτ71_102.2, sτ71_30.1, sτ71_30.2, sτ71_32.1, sτ71_32.2, sτ71_92.1, sτ71_92.2, fun a k => (jτ71 a k).1, fun a k => (jτ71 a k).2, pτ71]
                      refine hQ _ _ ?_ ?_ ?_
                      · exact rτ71
                      · exact fτ71
                      · exact trivial
                    · rename_i hc93
                      skip
                      unfold w_X16_records_96
                      try simp only [forall_eq, rII, rIJ, rIP, rJJ, rJI, rJP, rPP, rPI, rPJ, g1, g2, g3, g4, g5, g6, g7, g8, Nat.reduceEqDiff, Nat.reduceAdd, false_and, and_false, true_and, and_true, reduceIte, nZ0, nZ1, eτ71_98.1, eτ71_98.2, eτ71_100.1, eτ71_100.2, eτ71_102.1, eτ71_102.2, sτ71_30.1, sτ71_30.2, sτ71_32.1, sτ71_32.2, sτ71_92.1, sτ71_92.2, fun a k => (jτ71 a k).1, fun a k => (jτ71 a k).2, pτ71]
                      refine ⟨by (first | omega | with_reducible assumption | (unfold rng; omega) | (unfold rng; (repeat' split) <;> omega) | grind), ?_⟩
                      have q21 := rσ.1 100 (v5.toNat); simp only [rgT] at q21
                      split
                      · rename_i hc106
                        skip
                        unfold w_X16_records_125
                        try simp only [forall_eq, rII, rIJ, rIP, rJJ, rJI, rJP, rPP, rPI, rPJ, g1, g2, g3, g4, g5, g6, g7, g8, Nat.reduceEqDiff, Nat.reduceAdd, false_and, and_false, true_and, and_true, reduceIte, nZ0, nZ1, eτ71_98.1, eτ71_98.2, eτ71_100.1, eτ71_100.2, eτ71_102.1, eτ71_102.2, sτ71_30.1, sτ71_30.2, sτ71_32.1, sτ71_32.2, sτ71_92.1, sτ71_92.2, fun a k => (jτ71 a k).1, fun a k => (jτ71 a k).2, pτ71]
                        unfold w_X16_records_126
                        try simp only [forall_eq, rII, rIJ, rIP, rJJ, rJI, rJP, rPP, rPI, rPJ, g1, g2, g3, g4, g5, g6, g7, g8, Nat.reduceEqDiff, Nat.reduceAdd, false_and, and_false, true_and, and_true, reduceIte, nZ0, nZ1, eτ71_98.1, eτ71_98.2, eτ71_100.1, eτ71_100.2, eτ71_102.1, eτ71_102.2, sτ71_30.1, sτ71_30.2, sτ71_32.1, sτ71_32.2, sτ71_92.1, sτ71_92.2, fun a k => (jτ71 a k).1, fun a k => (jτ71 a k).2, pτ71]
                        refine ⟨by (first | omega | with_reducible assumption | (unfold rng; omega) | (unfold rng; (repeat' split) <;> omega) | grind), ?_⟩
                        refine ⟨by (first | omega | with_reducible assumption | (unfold rng; omega) | (unfold rng; (repeat' split) <;> omega) | grind), ?_⟩
                        refine ih71 _ _ _ ?_ ?_ ?_ ?_
                        · exact rτ71
                        · exact fτ71
                        · (try simp only [rII, rIJ, rIP, rJJ, rJI, rJP, rPP, rPI, rPJ, g1, g2, g3, g4, g5, g6, g7, g8, Nat.reduceEqDiff, Nat.reduceAdd, false_and, and_false, true_and, and_true, reduceIte, nZ0, nZ1, eτ71_98.1, eτ71_98.2, eτ71_100.1, eτ71_100.2, eτ71_102.1, eτ71_102.2, sτ71_30.1, sτ71_30.2, sτ71_32.1, sτ71_32.2, sτ71_92.1, sτ71_92.2, fun a k => (jτ71 a k).1, fun a k => (jτ71 a k).2, pτ71]) <;> (first | omega | with_reducible assumption | (unfold rng; omega) | (unfold rng; (repeat' split) <;> omega) | grind)
                        · (try simp only [rII, rIJ, rIP, rJJ, rJI, rJP, rPP, rPI, rPJ, g1, g2, g3, g4, g5, g6, g7, g8, Nat.reduceEqDiff, Nat.reduceAdd, false_and, and_false, true_and, and_true, reduceIte, nZ0, nZ1, eτ71_98.1, eτ71_98.2, eτ71_100.1, eτ71_100.2, eτ71_102.1, eτ71_102.2, sτ71_30.1, sτ71_30.2, sτ71_32.1, sτ71_32.2, sτ71_92.1, sτ71_92.2, fun a k => (jτ71 a k).1, fun a k => (jτ71 a k).2, pτ71]) <;> (first | omega | with_reducible assumption | (unfold rng; omega) | (unfold rng; (repeat' split) <;> omega) | grind)
                      · rename_i hc106
                        skip
                        unfold w_X16_records_109
                        try simp only [forall_eq, rII, rIJ, rIP, rJJ, rJI, rJP, rPP, rPI, rPJ, g1, g2, g3, g4, g5, g6, g7, g8, Nat.reduceEqDiff, Nat.reduceAdd, false_and, and_false, true_and, and_true, reduceIte, nZ0, nZ1, eτ71_98.1, eτ71_98.2, eτ71_100.1, eτ71_100.2, eτ71_102.1, eτ71_102.2, sτ71_30.1, sτ71_30.2, sτ71_32.1, sτ71_32.2, sτ71_92.1, sτ71_92.2, fun a k => (jτ71 a k).1, fun a k => (jτ71 a k).2, pτ71]
                        refine ⟨by (first | omega | with_reducible assumption | (unfold rng; omega) | (unfold rng; (repeat' split) <;> omega) | grind), ?_⟩
                        split
                        · rename_i hc118
                          skip
                          unfold w_X16_records_125
                          try simp only [forall_eq, rII, rIJ, rIP, rJJ, rJI, rJP, rPP, rPI, rPJ, g1, g2, g3, g4, g5, g6, g7, g8, Nat.reduceEqDiff, Nat.reduceAdd, false_and, and_false, true_and, and_true, reduceIte, nZ0, nZ1, eτ71_98.1, eτ71_98.2, eτ71_100.1, eτ71_100.2, eτ71_102.1, eτ71_102.2, sτ71_30.1, sτ71_30.2, sτ71_32.1, sτ71_32.2, sτ71_92.1, sτ71_92.2, fun a k => (jτ71 a k).1, fun a k => (jτ71 a k).2, pτ71]
                          unfold w_X16_records_126
                          try simp only [forall_eq, rII, rIJ, rIP, rJJ, rJI, rJP, rPP, rPI, rPJ, g1, g2, g3, g4, g5, g6, g7, g8, Nat.reduceEqDiff, Nat.reduceAdd, false_and, and_false, true_and, and_true, reduceIte, nZ0, nZ1, eτ71_98.1, eτ71_98.2, eτ71_100.1, eτ71_100.2, eτ71_102.1, eτ71_102.2, sτ71_30.1, sτ71_30.2, sτ71_32.1, sτ71_32.2, sτ71_92.1, sτ71_92.2, fun a k => (jτ71 a k).1, fun a k => (jτ71 a k).2, pτ71]
                          refine ⟨by (first | omega | with_reducible assumption | (unfold rng; omega) | (unfold rng; (repeat' split) <;> omega) | grind), ?_⟩
                          refine ⟨by (first | omega | with_reducible assumption | (unfold rng; omega) | (unfold rng; (repeat' split) <;> omega) | grind), ?_⟩
                          refine ih71 _ _ _ ?_ ?_ ?_ ?_
                          · exact rτ71
                          · exact fτ71
                          · (try simp only [rII, rIJ, rIP, rJJ, rJI, rJP, rPP, rPI, rPJ, g1, g2, g3, g4, g5, g6, g7, g8, Nat.reduceEqDiff, Nat.reduceAdd, false_and, and_false, true_and, and_true, reduceIte, nZ0, nZ1, eτ71_98.1, eτ71_98.2, eτ71_100.1, eτ71_100.2, eτ71_102.1, eτ71_102.2, sτ71_30.1, sτ71_30.2, sτ71_32.1, sτ71_32.2, sτ71_92.1, sτ71_92.2, fun a k => (jτ71 a k).1, fun a k => (jτ71 a k).2, pτ71]) <;> (first | omega | with_reducible assumption | (unfold rng; omega) | (unfold rng; (repeat' split) <;> omega) | grind)
                          · (try simp only [rII, rIJ, rIP, rJJ, rJI, rJP, rPP, rPI, rPJ, g1, g2, g3, g4, g5, g6, g7, g8, Nat.reduceEqDiff, Nat.reduceAdd, false_and, and_false, true_and, and_true, reduceIte, nZ0, nZ1, eτ71_98.1, eτ71_98.2, eτ71_100.1, eτ71_100.2, eτ71_102.1, eτ71_102.2, sτ71_30.1, sτ71_30.2, sτ71_32.1, sτ71_32.2, sτ71_92.1, sτ71_92.2, fun a k => (jτ71 a k).1, fun a k => (jτ71 a k).2, pτ71]) <;> (first | omega | with_reducible assumption | (unfold rng; omega) | (unfold rng; (repeat' split) <;> omega) | grind)
                        · rename_i hc118
                          skip
                          unfold w_X16_records_121
                          try simp only [forall_eq, rII, rIJ, rIP, rJJ, rJI, rJP, rPP, rPI, rPJ, g1, g2, g3, g4, g5, g6, g7, g8, Nat.reduceEqDiff, Nat.reduceAdd, false_and, and_false, true_and, and_true, reduceIte, nZ0, nZ1, eτ71_98.1, eτ71_98.2, eτ71_100.1, eτ71_100.2, eτ71_102.1, eτ71_102.2, sτ71_30.1, sτ71_30.2, sτ71_32.1, sτ71_32.2, sτ71_92.1, sτ71_92.2, fun a k => (jτ71 a k).1, fun a k => (jτ71 a k).2, pτ71]
                          unfold w_X16_records_126
                          try simp only [forall_eq, rII, rIJ, rIP, rJJ, rJI, rJP, rPP, rPI, rPJ, g1, g2, g3, g4, g5, g6, g7, g8, Nat.reduceEqDiff, Nat.reduceAdd, false_and, and_false, true_and, and_true, reduceIte, nZ0, nZ1, eτ71_98.1, eτ71_98.2, eτ71_100.1, eτ71_100.2, eτ71_102.1, eτ71_102.2, sτ71_30.1, sτ71_30.2, sτ71_32.1, sτ71_32.2, sτ71_92.1, sτ71_92.2, fun a k => (jτ71 a k).1, fun a k => (jτ71 a k).2, pτ71]
                          refine ⟨by (first | omega | with_reducible assumption | (unfold rng; omega) | (unfold rng; (repeat' split) <;> omega) | grind), ?_⟩
                          refine ⟨by (first | omega | with_reducible assumption | (unfold rng; omega) | (unfold rng; (repeat' split) <;> omega) | grind), ?_⟩
                          refine ih71 _ _ _ ?_ ?_ ?_ ?_
                          · exact rτ71
                          · exact fτ71
                          · (try simp only [rII, rIJ, rIP, rJJ, rJI, rJP, rPP, rPI, rPJ, g1, g2, g3, g4, g5, g6, g7, g8, Nat.reduceEqDiff, Nat.reduceAdd, false_and, and_false, true_and, and_true, reduceIte, nZ0, nZ1, eτ71_98.1, eτ71_98.2, eτ71_100.1, eτ71_100.2, eτ71_102.1, eτ71_102.2, sτ71_30.1, sτ71_30.2, sτ71_32.1, sτ71_32.2, sτ71_92.1, sτ71_92.2, fun a k => (jτ71 a k).1, fun a k => (jτ71 a k).2, pτ71]) <;> (first | omega | with_reducible assumption | (unfold rng; omega) | (unfold rng; (repeat' split) <;> omega) | grind)
                          · (try simp only [rII, rIJ, rIP, rJJ, rJI, rJP, rPP, rPI, rPJ, g1, g2, g3, g4, g5, g6, g7, g8, Nat.reduceEqDiff, Nat.reduceAdd, false_and, and_false, true_and, and_true, reduceIte, nZ0, nZ1, eτ71_98.1, eτ71_98.2, eτ71_100.1, eτ71_100.2, eτ71_102.1, eτ71_102.2, sτ71_30.1, sτ71_30.2, sτ71_32.1, sτ71_32.2, sτ71_92.1, sτ71_92.2, fun a k => (jτ71 a k).1, fun a k => (jτ71 a k).2, pτ71]) <;> (first | omega | with_reducible assumption | (unfold rng; omega) | (unfold rng; (repeat' split) <;> omega) | grind)
            refine ⟨_, L71 _ _ _ _ ?_ ?_ ?_ (Nat.lt_succ_self _)⟩
            · refine Rg.sI g ?_ (by simp only [rgS]; first | with_reducible exact nZ_rng _ | with_reducible exact nB_rng _ | with_reducible exact wr_rng _ | with_reducible exact i32any _ | (first | omega | with_reducible assumption | (unfold rng; omega) | (unfold rng; (repeat' split) <;> omega) | grind)); exact rσ
            · refine Fr.sI g ?_ (by decide); exact fσ
            · (try simp only [rII, rIJ, rIP, rJJ, rJI, rJP, rPP, rPI, rPJ, g1, g2, g3, g4, g5, g6, g7, g8, Nat.reduceEqDiff, Nat.reduceAdd, false_and, and_false, true_and, and_true, reduceIte, nZ0, nZ1]) <;> (first | omega | with_reducible assumption | (unfold rng; omega) | (unfold rng; (repeat' split) <;> omega) | grind)
        · rename_i hc42
          skip
          unfold w_X16_records_45
          try simp only [forall_eq, rII, rIJ, rIP, rJJ, rJI, rJP, rPP, rPI, rPJ, g1, g2, g3, g4, g5, g6, g7, g8, Nat.reduceEqDiff, Nat.reduceAdd, false_and, and_false, true_and, and_true, reduceIte, nZ0, nZ1]
          unfold w_X16_records_62
          try simp only [forall_eq, rII, rIJ, rIP, rJJ, rJI, rJP, rPP, rPI, rPJ, g1, g2, g3, g4, g5, g6, g7, g8, Nat.reduceEqDiff, Nat.reduceAdd, false_and, and_false, true_and, and_true, reduceIte, nZ0, nZ1]
          have L71 : ∀ (fu71 : Nat) (τ71 : Sg) (v4 : Int) (v5 : Int), Rg ra jx rm τ71 → Fr ra jx rm [] [0] σ τ71 → (0 ≤ v5 ∧ v5 ≤ 4000 ∧ 0 ≤ v4 ∧ v4 ≤ v5) → ((4000 - v5).toNat) < fu71 → wl_X16_records_71 ra jx rm Q X fu71 τ71 v1 v2 v4 v5 := by
            intro fu71
            induction fu71 with
            | zero => intro τ71 _ _ _ _ _ h9; omega
            | succ fu71 ih71 =>
              intro τ71 v4 v5 rτ71 fτ71 hi71 hm71
              unfold wl_X16_records_71
              have eτ71_98 := fτ71.1 98 (by decide)
              have eτ71_100 := fτ71.1 100 (by decide)
              have eτ71_102 := fτ71.1 102 (by decide)
              have sτ71_30 := fτ71.2.1 30 (by decide)
              have sτ71_32 := fτ71.2.1 32 (by decide)
              have sτ71_92 := fτ71.2.1 92 (by decide)
              have jτ71 := fτ71.2.2.1
              have pτ71 := fτ71.2.2.2
              unfold w_X16_records_71
              try simp only [forall_eq, rII, rIJ, rIP, rJJ, rJI, rJP, rPP, rPI, rPJ, g1, g2, g3, g4, g5, g6, g7, g8, Nat.reduceEqDiff, Nat.reduceAdd, false_and, and_false, true_and, and_true, reduceIte, nZ0, nZ1, eτ71_98.1, eτ71_98.2, eτ71_100.1, eτ71_100.2, eτ71_102.1, eτ71_102.2, sτ71_30.1, sτ71_30.2, sτ71_32.1, sτ71_32.2, sτ71_92.1, sτ71_92.2, fun a k => (jτ71 a k).1, fun a k => (jτ71 a k).2, pτ71]
              have q22 := rτ71.2.1 0; simp only [rgS] at q22
              split
              · rename_i hc75
                skip
                unfold w_X16_records_135
                try simp only [forall_eq, rII, rIJ, rIP, rJJ, rJI, rJP, rPP, rPI, rPJ, g1, g2, g3, g4, g5, g6, g7, g8, Nat.reduceEqDiff, Nat.reduceAdd, false_and, and_false, true_and, and_true, reduceIte, nZ0, nZ1, eτ71_98.1, eτ71_98.2, eτ71_100.1, eτ71_100.2, eτ71_102.1, eτ71_102.2, sτ71_30.1, sτ71_30.2, sτ71_32.1, sτ71_32.2, sτ71_92.1, sτ71_92.2, fun a k => (jτ71 a k).1, fun a k => (jτ71 a k).2, pτ71]
                refine hQ _ _ ?_ ?_ ?_
                · exact rτ71
                · exact fτ71
                · exact trivial
              · rename_i hc75
                skip
                unfold w_X16_records_78
                try simp only [forall_eq, rII, rIJ, rIP, rJJ, rJI, rJP, rPP, rPI, rPJ, g1, g2, g3, g4, g5, g6, g7, g8, Nat.reduceEqDiff, Nat.reduceAdd, false_and, and_false, true_and, and_true, reduceIte, nZ0, nZ1, eτ71_98.1, eτ71_98.2, eτ71_100.1, eτ71_100.2, eτ71_102.1, eτ71_102.2, sτ71_30.1, sτ71_30.2, sτ71_32.1, sτ71_32.2, sτ71_92.1, sτ71_92.2, fun a k => (jτ71 a k).1, fun a k => (jτ71 a k).2, pτ71]
                have q23 := rσ.2.1 92; simp only [rgS] at q23
                split
                · rename_i hc82
                  skip
                  unfold w_X16_records_135
                  try simp only [forall_eq, rII, rIJ, rIP, rJJ, rJI, rJP, rPP, rPI, rPJ, g1, g2, g3, g4, g5, g6, g7, g8, Nat.reduceEqDiff, Nat.reduceAdd, false_and, and_false, true_and, and_true, reduceIte, nZ0, nZ1, eτ71_98.1, eτ71_98.2, eτ71_100.1, eτ71_100.2, eτ71_102.1, eτ71_102.2, sτ71_30.1, sτ71_30.2, sτ71_32.1, sτ71_32.2, sτ71_92.1, sτ71_92.2, fun a k => (jτ71 a k).1, fun a k => (jτ71 a k).2, pτ71]
                  refine hQ _ _ ?_ ?_ ?_
                  · exact rτ71
                  · exact fτ71
                  · exact trivial
                · rename_i hc82
                  skip
                  unfold w_X16_records_85
                  try simp only [forall_eq, rII, rIJ, rIP, rJJ, rJI, rJP, rPP, rPI, rPJ, g1, g2, g3, g4, g5, g6, g7, g8, Nat.reduceEqDiff, Nat.reduceAdd, false_and, and_false, true_and, and_true, reduceIte, nZ0, nZ1, eτ71_98.1, eτ71_98.2, eτ71_100.1, eτ71_100.2, eτ71_102.1, eτ71_102.2, sτ71_30.1, sτ71_30.2, sτ71_32.1, sτ71_32.2, sτ71_92.1, sτ71_92.2, fun a k => (jτ71 a k).1, fun a k => (jτ71 a k).2, pτ71]
                  have q24 := rσ.1 98 0; simp only [rgT] at q24
                  split
                  · rename_i hc93
                    skip
                    unfold w_X16_records_135
                    try simp only [forall_eq, rII, rIJ, rIP, rJJ, rJI, rJP, rPP, rPI, rPJ, g1, g2, g3, g4, g5, g6, g7, g8, Nat.reduceEqDiff, Nat.reduceAdd, false_and, and_false, true_and, and_true, reduceIte, nZ0, nZ1, eτ71_98.1, eτ71_98.2, eτ71_100.1, eτ71_100.2, eτ71_102.1, eτ71_102.2, sτ71_30.1, sτ71_30.2, sτ71_32.1, sτ71_32.2, sτ71_92.1, sτ71_92.2, fun a k => (jτ71 a k).1, fun a k => (jτ71 a k).2, pτ71]
                    refine hQ _ _ ?_ ?_ ?_
                    · exact rτ71
                    · exact fτ71
                    · exact trivial
                  · rename_i hc93
                    skip
                    unfold w_X16_records_96
                    try simp only [forall_eq, rII, rIJ, rIP, rJJ, rJI, rJP, rPP, rPI, rPJ, g1, g2, g3, g4, g5, g6, g7, g8, Nat.reduceEqDiff, Nat.reduceAdd, false_and, and_false, true_and, and_true, reduceIte, nZ0, nZ1, eτ71_98.1, eτ71_98.2, eτ71_100.1, eτ71_100.2, eτ71_102.1, eτ71_102.2, sτ71_30.1, sτ71_30.2, sτ71_32.1, sτ71_32.2, sτ71_92.1, sτ71_92.2, fun a k => (jτ71 a k).1, fun a k => (jτ71 a k).2, pτ71]
                    refine ⟨by (first | omega | with_reducible assumption | (unfold rng; omega) | (unfold rng; (repeat' split) <;> omega) | grind), ?_⟩
                    have q25 := rσ.1 100 (v5.toNat); simp only [rgT] at q25
                    split
                    · rename_i hc106
                      skip
                      unfold w_X16_records_125
                      try simp only [forall_eq, rII, rIJ, rIP, rJJ, rJI, rJP, rPP, rPI, rPJ, g1, g2, g3, g4, g5, g6, g7, g8, Nat.reduceEqDiff, Nat.reduceAdd, false_and, and_false, true_and, and_true, reduceIte, nZ0, nZ1, eτ71_98.1, eτ71_98.2, eτ71_100.1, eτ71_100.2, eτ71_102.1, eτ71_102.2, sτ71_30.1, sτ71_30.2, sτ71_32.1, sτ71_32.2, sτ71_92.1, sτ71_92.2, fun a k => (jτ71 a k).1, fun a k => (jτ71 a k).2, pτ71]
                      unfold w_X16_records_126
                      try simp only [forall_eq, rII, rIJ, rIP, rJJ, rJI, rJP, rPP, rPI, rPJ, g1, g2, g3, g4, g5, g6, g7, g8, Nat.reduceEqDiff, Nat.reduceAdd, false_and, and_false, true_and, and_true, reduceIte, nZ0, nZ1, eτ71_98.1, eτ71_98.2, eτ71_100.1, eτ71_100.2, eτ71_102.1, eτ71_102.2, sτ71_30.1, sτ71_30.2, sτ71_32.1, sτ71_32.2, sτ71_92.1, sτ71_92.2, fun a k => (jτ71 a k).1, fun a k => (jτ71 a k).2, pτ71]
                      refine ⟨by (first | omega | with_reducible assumption | (unfold rng; omega) | (unfold rng; (repeat' split) <;> omega) | grind), ?_⟩
                      refine ⟨by (first | omega | with_reducible assumption | (unfold rng; omega) | (unfold rng; (repeat' split) <;> omega) | grind), ?_⟩
                      refine ih71 _ _ _ ?_ ?_ ?_ ?_
                      · exact rτ71
                      · exact fτ71
                      · (try simp only [rII, rIJ, rIP, rJJ, rJI, rJP, rPP, rPI, rPJ, g1, g2, g3, g4, g5, g6, g7, g8, Nat.reduceEqDiff, Nat.reduceAdd, false_and, and_false, true_and, and_true, reduceIte, nZ0, nZ1, eτ71_98.1, eτ71_98.2, eτ71_100.1, eτ71_100.2, eτ71_102.1, eτ71_102.2, sτ71_30.1, sτ71_30.2, sτ71_32.1, sτ71_32.2, sτ71_92.1, sτ71_92.2, fun a k => (jτ71 a k).1, fun a k => (jτ71 a k).2, pτ71]) <;> (first | omega | with_reducible assumption | (unfold rng; omega) | (unfold rng; (repeat' split) <;> omega) | grind)
                      · (try simp only [rII, rIJ, rIP, rJJ, rJI, rJP, rPP, rPI, rPJ, g1, g2, g3, g4, g5, g6, g7, g8, Nat.reduceEqDiff, Nat.reduceAdd, false_and, and_false, true_and, and_true, reduceIte, nZ0, nZ1, eτ71_98.1, eτ71_98.2, eτ71_100.1, eτ71_100.2, eτ71_102.1, eτ71_102.2, sτ71_30.1, sτ71_30.2, sτ71_32.1, sτ71_32.2, sτ71_92.1, sτ71_92.2, fun a k => (jτ71 a k).1, fun a k => (jτ71 a k).2, pτ71]) <;> (first | omega | with_reducible assumption | (unfold rng; omega) | (unfold rng; (repeat' split) <;> omega) | grind)
                    · rename_i hc106
                      skip
                      unfold w_X16_records_109
                      try simp only [forall_eq, rII, rIJ, rIP, rJJ, rJI, rJP, rPP, rPI, rPJ, g1, g2, g3, g4, g5, g6, g7, g8, Nat.reduceEqDiff, Nat.reduceAdd, false_and, and_false, true_and, and_true, reduceIte, nZ0, nZ1, eτ71_98.1, eτ71_98.2, eτ71_100.1, eτ71_100.2, eτ71_102.1, eτ71_102.2, sτ71_30.1, sτ71_30.2, sτ71_32.1, sτ71_32.2, sτ71_92.1, sτ71_92.2, fun a k => (jτ71 a k).1, fun a k => (jτ71 a k).2, pτ71]
                      refine ⟨by (first | omega | with_reducible assumption | (unfold rng; omega) | (unfold rng; (repeat' split) <;> omega) | grind), ?_⟩
                      split
                      · rename_i hc118
                        skip
                        unfold w_X16_records_125
                        try simp only [forall_eq, rII, rIJ, rIP, rJJ, rJI, rJP, rPP, rPI, rPJ, g1, g2, g3, g4, g5, g6, g7, g8, Nat.reduceEqDiff, Nat.reduceAdd, false_and, and_false, true_and, and_true, reduceIte, nZ0, nZ1, eτ71_98.1, eτ71_98.2, eτ71_100.1, eτ71_100.2, eτ71_102.1, eτ71_102.2, sτ71_30.1, sτ71_30.2, sτ71_32.1, sτ71_32.2, sτ71_92.1, sτ71_92.2, fun a k => (jτ71 a k).1, fun a k => (jτ71 a k).2, pτ71]
                        unfold w_X16_records_126
                        try simp only [forall_eq, rII, rIJ, rIP, rJJ, rJI, rJP, rPP, rPI, rPJ, g1, g2, g3, g4, g5, g6, g7, g8, Nat.reduceEqDiff, Nat.reduceAdd, false_and, and_false, true_and, and_true, reduceIte, nZ0, nZ1, eτ71_98.1, eτ71_98.2, eτ71_100.1, eτ71_100.2, eτ71_102.1, eτ71_102.2, sτ71_30.1, sτ71_30.2, sτ71_32.1, sτ71_32.2, sτ71_92.1, sτ71_92.2, fun a k => (jτ71 a k).1, fun a k => (jτ71 a k).2, pτ71]
                        refine ⟨by (first | omega | with_reducible assumption | (unfold rng; omega) | (unfold rng; (repeat' split) <;> omega) | grind), ?_⟩
                        refine ⟨by (first | omega | with_reducible assumption | (unfold rng; omega) | (unfold rng; (repeat' split) <;> omega) | grind), ?_⟩
                        refine ih71 _ _ _ ?_ ?_ ?_ ?_
                        · exact rτ71
                        · exact fτ71
                        · (try simp only [rII, rIJ, rIP, rJJ, rJI, rJP, rPP, rPI, rPJ, g1, g2, g3, g4, g5, g6, g7, g8, Nat.reduceEqDiff, Nat.reduceAdd, false_and, and_false, true_and, and_true, reduceIte, nZ0, nZ1, eτ71_98.1, eτ71_98.2, eτ71_100.1, eτ71_100.2, eτ71_102.1, eτ71_102.2, sτ71_30.1, sτ71_30.2, sτ71_32.1, sτ71_32.2, sτ71_92.1, sτ71_92.2, fun a k => (jτ71 a k).1, fun a k => (jτ71 a k).2, pτ71]) <;> (first | omega | with_reducible assumption | (unfold rng; omega) | (unfold rng; (repeat' split) <;> omega) | grind)
                        · (try simp only [rII, rIJ, rIP, rJJ, rJI, rJP, rPP, rPI, rPJ, g1, g2, g3, g4, g5, g6, g7, g8, Nat.reduceEqDiff, Nat.reduceAdd, false_and, and_false, true_and, and_true, reduceIte, nZ0, nZ1, eτ71_98.1, eτ71_98.2, eτ71_100.1, eτ71_100.2, eτ71_102.1, eτ71_102.2, sτ71_30.1, sτ71_30.2, sτ71_32.1, sτ71_32.2, sτ71_92.1, sτ71_92.2, fun a k => (jτ71 a k).1, fun a k => (jτ71 a k).2, pτ71]) <;> (first | omega | with_reducible assumption | (unfold rng; omega) | (unfold rng; (repeat' split) <;> omega) | grind)
                      · rename_i hc118
                        skip
                        unfold w_X16_records_121
                        try simp only [forall_eq, rII, rIJ, rIP, rJJ, rJI, rJP, rPP, rPI, rPJ, g1, g2, g3, g4, g5, g6, g7, g8, Nat.reduceEqDiff, Nat.reduceAdd, false_and, and_false, true_and, and_true, reduceIte, nZ0, nZ1, eτ71_98.1, eτ71_98.2, eτ71_100.1, eτ71_100.2, eτ71_102.1, eτ71_102.2, sτ71_30.1, sτ71_30.2, sτ71_32.1, sτ71_32.2, sτ71_92.1, sτ71_92.2, fun a k => (jτ71 a k).1, fun a k => (jτ71 a k).2, pτ71]
                        unfold w_X16_records_126
                        try simp only [forall_eq, rII, rIJ, rIP, rJJ, rJI, rJP, rPP, rPI, rPJ, g1, g2, g3, g4, g5, g6, g7, g8, Nat.reduceEqDiff, Nat.reduceAdd, false_and, and_false, true_and, and_true, reduceIte, nZ0, nZ1, eτ71_98.1, eτ71_98.2, eτ71_100.1, eτ71_100.2, eτ71_102.1, eτ71_102.2, sτ71_30.1, sτ71_30.2, sτ71_32.1, sτ71_32.2, sτ71_92.1, sτ71_92.2, fun a k => (jτ71 a k).1, fun a k => (jτ71 a k).2, pτ71]
                        refine ⟨by (first | omega | with_reducible assumption | (unfold rng; omega) | (unfold rng; (repeat' split) <;> omega) | grind), ?_⟩
                        refine ⟨by (first | omega | with_reducible assumption | (unfold rng; omega) | (unfold rng; (repeat' split) <;> omega) | grind), ?_⟩
                        refine ih71 _ _ _ ?_ ?_ ?_ ?_
                        · exact rτ71
                        · exact fτ71
                        · (try simp only [rII, rIJ, rIP, rJJ, rJI, rJP, rPP, rPI, rPJ, g1, g2, g3, g4, g5, g6, g7, g8, Nat.reduceEqDiff, Nat.reduceAdd, false_and, and_false, true_and, and_true, reduceIte, nZ0, nZ1, eτ71_98.1, eτ71_98.2, eτ71_100.1, eτ71_100.2, eτ71_102.1, eτ71_102.2, sτ71_30.1, sτ71_30.2, sτ71_32.1, sτ71_32.2, sτ71_92.1, sτ71_92.2, fun a k => (jτ71 a k).1, fun a k => (jτ71 a k).2, pτ71]) <;> (first | omega | with_reducible assumption | (unfold rng; omega) | (unfold rng; (repeat' split) <;> omega) | grind)
                        · (try simp only [rII, rIJ, rIP, rJJ, rJI, rJP, rPP, rPI, rPJ, g1, g2, g3, g4, g5, g6, g7, g8, Nat.reduceEqDiff, Nat.reduceAdd, false_and, and_false, true_and, and_true, reduceIte, nZ0, nZ1, eτ71_98.1, eτ71_98.2, eτ71_100.1, eτ71_100.2, eτ71_102.1, eτ71_102.2, sτ71_30.1, sτ71_30.2, sτ71_32.1, sτ71_32.2, sτ71_92.1, sτ71_92.2, fun a k => (jτ71 a k).1, fun a k => (jτ71 a k).2, pτ71]) <;> (first | omega | with_reducible assumption | (unfold rng; omega) | (unfold rng; (repeat' split) <;> omega) | grind)
          refine ⟨_, L71 _ _ _ _ ?_ ?_ ?_ (Nat.lt_succ_self _)⟩
          · refine Rg.sI g ?_ (by simp only [rgS]; first | with_reducible exact nZ_rng _ | with_reducible exact nB_rng _ | with_reducible exact wr_rng _ | with_reducible exact i32any _ | (first | omega | with_reducible assumption | (unfold rng; omega) | (unfold rng; (repeat' split) <;> omega) | grind)); exact rσ
          · refine Fr.sI g ?_ (by decide); exact fσ
          · (try simp only [rII, rIJ, rIP, rJJ, rJI, rJP, rPP, rPI, rPJ, g1, g2, g3, g4, g5, g6, g7, g8, Nat.reduceEqDiff, Nat.reduceAdd, false_and, and_false, true_and, and_true, reduceIte, nZ0, nZ1]) <;> (first | omega | with_reducible assumption | (unfold rng; omega) | (unfold rng; (repeat' split) <;> omega) | grind)
    · rename_i hc24
      skip
      unfold w_X16_records_27
      try simp only [forall_eq, rII, rIJ, rIP, rJJ, rJI, rJP, rPP, rPI, rPJ, g1, g2, g3, g4, g5, g6, g7, g8, Nat.reduceEqDiff, Nat.reduceAdd, false_and, and_false, true_and, and_true, reduceIte, nZ0, nZ1]
      unfold w_X16_records_62
      try simp only [forall_eq, rII, rIJ, rIP, rJJ, rJI, rJP, rPP, rPI, rPJ, g1, g2, g3, g4, g5, g6, g7, g8, Nat.reduceEqDiff, Nat.reduceAdd, false_and, and_false, true_and, and_true, reduceIte, nZ0, nZ1]
      have L71 : ∀ (fu71 : Nat) (τ71 : Sg) (v4 : Int) (v5 : Int), Rg ra jx rm τ71 → Fr ra jx rm [] [0] σ τ71 → (0 ≤ v5 ∧ v5 ≤ 4000 ∧ 0 ≤ v4 ∧ v4 ≤ v5) → ((4000 - v5).toNat) < fu71 → wl_X16_records_71 ra jx rm Q X fu71 τ71 v1 v2 v4 v5 := by
        intro fu71
        induction fu71 with
        | zero => intro τ71 _ _ _ _ _ h9; omega
        | succ fu71 ih71 =>
          intro τ71 v4 v5 rτ71 fτ71 hi71 hm71
          unfold wl_X16_records_71
          have eτ71_98 := fτ71.1 98 (by decide)
          have eτ71_100 := fτ71.1 100 (by decide)
          have eτ71_102 := fτ71.1 102 (by decide)
          have sτ71_30 := fτ71.2.1 30 (by decide)
          have sτ71_32 := fτ71.2.1 32 (by decide)
          have sτ71_92 := fτ71.2.1 92 (by decide)
          have jτ71 := fτ71.2.2.1
          have pτ71 := fτ71.2.2.2
          unfold w_X16_records_71
          try simp only [forall_eq, rII, rIJ, rIP, rJJ, rJI, rJP, rPP, rPI, rPJ, g1, g2, g3, g4, g5, g6, g7, g8, Nat.reduceEqDiff, Nat.reduceAdd, false_and, and_false, true_and, and_true, reduceIte, nZ0, nZ1, eτ71_98.1, eτ71_98.2, eτ71_100.1, eτ71_100.2, eτ71_102.1, eτ71_102.2, sτ71_30.1, sτ71_30.2, sτ71_32.1, sτ71_32.2, sτ71_92.1, sτ71_92.2, fun a k => (jτ71 a k).1, fun a k => (jτ71 a k).2, pτ71]
          have q26 := rτ71.2.1 0; simp only [rgS] at q26
          split
          · rename_i hc75
            skip
            unfold w_X16_records_135
            try simp only [forall_eq, rII, rIJ, rIP, rJJ, rJI, rJP, rPP, rPI, rPJ, g1, g2, g3, g4, g5, g6, g7, g8, Nat.reduceEqDiff, Nat.reduceAdd, false_and, and_false, true_and, and_true, reduceIte, nZ0, nZ1, eτ71_98.1, eτ71_98.2, eτ71_100.1, eτ71_100.2, eτ71_102.1, eτ71_102.2, sτ71_30.1, sτ71_30.2, sτ71_32.1, sτ71_32.2, sτ71_92.1, sτ71_92.2, fun a k => (jτ71 a k).1, fun a k => (jτ71 a k).2, pτ71]
            refine hQ _ _ ?_ ?_ ?_
            · exact rτ71
            · exact fτ71
            · exact trivial
          · rename_i hc75
            skip
            unfold w_X16_records_78
            try simp only [forall_eq, rII, rIJ, rIP, rJJ, rJI, rJP, rPP, rPI, rPJ, g1, g2, g3, g4, g5, g6, g7, g8, Nat.reduceEqDiff, Nat.reduceAdd, false_and, and_false, true_and, and_true, reduceIte, nZ0, nZ1, eτ71_98.1, eτ71_98.2, eτ71_100.1, eτ71_100.2, eτ71_102.1, eτ71_102.2, sτ71_30.1, sτ71_30.2, sτ71_32.1, sτ71_32.2, sτ71_92.1, sτ71_92.2, fun a k => (jτ71 a k).1, fun a k => (jτ71 a k).2, pτ71]
            have q27 := rσ.2.1 92; simp only [rgS] at q27
            split
            · rename_i hc82
              skip
              unfold w_X16_records_135
              try simp only [forall_eq, rII, rIJ, rIP, rJJ, rJI, rJP, rPP, rPI, rPJ, g1, g2, g3, g4, g5, g6, g7, g8, Nat.reduceEqDiff, Nat.reduceAdd, false_and, and_false, true_and, and_true, reduceIte, nZ0, nZ1, eτ71_98.1, eτ71_98.2, eτ71_100.1, eτ71_100.2, eτ71_102.1, eτ71_102.2, sτ71_30.1, sτ71_30.2, sτ71_32.1, sτ71_32.2, sτ71_92.1, sτ71_92.2, fun a k => (jτ71 a k).1, fun a k => (jτ71 a k).2, pτ71]
              refine hQ _ _ ?_ ?_ ?_
              · exact rτ71
              · exact fτ71
              · exact trivial
            · rename_i hc82
              skip
              unfold w_X16_records_85
              try simp only [forall_eq, rII, rIJ, rIP, rJJ, rJI, rJP, rPP, rPI, rPJ, g1, g2, g3, g4, g5, g6, g7, g8, Nat.reduceEqDiff, Nat.reduceAdd, false_and, and_false, true_and, and_true, reduceIte, nZ0, nZ1, eτ71_98.1, eτ71_98.2, eτ71_100.1, eτ71_100.2, eτ71_102.1, eτ71_102.2, sτ71_30.1, sτ71_30.2, sτ71_32.1, sτ71_32.2, sτ71_92.1, sτ71_92.2, fun a k => (jτ71 a k).1, fun a k => (jτ71 a k).2, pτ71]
              have q28 := rσ.1 98 0; simp only [rgT] at q28
              split
              · rename_i hc93
                skip
                unfold w_X16_records_135
                try simp only [forall_eq, rII, rIJ, rIP, rJJ, rJI, rJP, rPP, rPI, rPJ, g1, g2, g3, g4, g5, g6, g7, g8, Nat.reduceEqDiff, Nat.reduceAdd, false_and, and_false, true_and, and_true, reduceIte, nZ0, nZ1, eτ71_98.1, eτ71_98.2, eτ71_100.1, eτ71_100.2, eτ71_102.1, eτ71_102.2, sτ71_30.1, sτ71_30.2, sτ71_32.1, sτ71_32.2, sτ71_92.1, sτ71_92.2, fun a k => (jτ71 a k).1, fun a k => (jτ71 a k).2, pτ71]
                refine hQ _ _ ?_ ?_ ?_
                · exact rτ71
                · exact fτ71
                · exact trivial
              · rename_i hc93
                skip
                unfold w_X16_records_96
                try simp only [forall_eq, rII, rIJ, rIP, rJJ, rJI, rJP, rPP, rPI, rPJ, g1, g2, g3, g4, g5, g6, g7, g8, Nat.reduceEqDiff, Nat.reduceAdd, false_and, and_false, true_and, and_true, reduceIte, nZ0, nZ1, eτ71_98.1, eτ71_98.2, eτ71_100.1, eτ71_100.2, eτ71_102.1, eτ71_102.2, sτ71_30.1, sτ71_30.2, sτ71_32.1, sτ71_32.2, sτ71_92.1, sτ71_92.2, fun a k => (jτ71 a k).1, fun a k => (jτ71 a k).2, pτ71]
                refine ⟨by (first | omega | with_reducible assumption | (unfold rng; omega) | (unfold rng; (repeat' split) <;> omega) | grind), ?_⟩
                have q29 := rσ.1 100 (v5.toNat); simp only [rgT] at q29
                split
                · rename_i hc106
                  skip
                  unfold w_X16_records_125
                  try simp only [forall_eq, rII, rIJ, rIP, rJJ, rJI, rJP, rPP, rPI, rPJ, g1, g2, g3, g4, g5, g6, g7, g8, Nat.reduceEqDiff, Nat.reduceAdd, false_and, and_false, true_and, and_true, reduceIte, nZ0, nZ1, eτ71_98.1, eτ71_98.2, eτ71_100.1, eτ71_100.2, eτ71_102.1, eτ71_102.2, sτ71_30.1, sτ71_30.2, sτ71_32.1, sτ71_32.2, sτ71_92.1, sτ71_92.2, fun a k => (jτ71 a k).1, fun a k => (jτ71 a k).2, pτ71]
                  unfold w_X16_records_126
                  try simp only [forall_eq, rII, rIJ, rIP, rJJ, rJI, rJP, rPP, rPI, rPJ, g1, g2, g3, g4, g5, g6, g7, g8, Nat.reduceEqDiff, Nat.reduceAdd, false_and, and_false, true_and, and_true, reduceIte, nZ0, nZ1, eτ71_98.1, eτ71_98.2, eτ71_100.1, eτ71_100.2, eτ71_102.1, eτ71_102.2, sτ71_30.1, sτ71_30.2, sτ71_32.1, sτ71_32.2, sτ71_92.1, sτ71_92.2, fun a k => (jτ71 a k).1, fun a k => (jτ71 a k).2, pτ71]
                  refine ⟨by (first | omega | with_reducible assumption | (unfold rng; omega) | (unfold rng; (repeat' split) <;> omega) | grind), ?_⟩
                  refine ⟨by (first | omega | with_reducible assumption | (unfold rng; omega) | (unfold rng; (repeat' split) <;> omega) | grind), ?_⟩
                  refine ih71 _ _ _ ?_ ?_ ?_ ?_
                  · exact rτ71
                  · exact fτ71
                  · (try simp only [rII, rIJ, rIP, rJJ, rJI, rJP, rPP, rPI, rPJ, g1, g2, g3, g4, g5, g6, g7, g8, Nat.reduceEqDiff, Nat.reduceAdd, false_and, and_false, true_and, and_true, reduceIte, nZ0, nZ1, eτ71_98.1, eτ71_98.2, eτ71_100.1, eτ71_100.2, eτ71_102.1, eτ71_102.2, sτ71_30.1, sτ71_30.2, sτ71_32.1, sτ71_32.2, sτ71_92.1, sτ71_92.2, fun a k => (jτ71 a k).1, fun a k => (jτ71 a k).2, pτ71]) <;> (first | omega | with_reducible assumption | (unfold rng; omega) | (unfold rng; (repeat' split) <;> omega) | grind)
                  · (try simp only [rII, rIJ, rIP, rJJ, rJI, rJP, rPP, rPI, rPJ, g1, g2, g3, g4, g5, g6, g7, g8, Nat.reduceEqDiff, Nat.reduceAdd, false_and, and_false, true_and, and_true, reduceIte, nZ0, nZ1, eτ71_98.1, eτ71_98.2, eτ71_100.1, eτ71_100.2, eτ71_102.1, eτ71_102.2, sτ71_30.1, sτ71_30.2, sτ71_32.1, sτ71_32.2, sτ71_92.1, sτ71_92.2, fun a k => (jτ71 a k).1, fun a k => (jτ71 a k).2, pτ71]) <;> (first | omega | with_reducible assumption | (unfold rng; omega) | (unfold rng; (repeat' split) <;> omega) | grind)
                · rename_i hc106
                  skip
                  unfold w_X16_records_109
                  try simp only [forall_eq, rII, rIJ, rIP, rJJ, rJI, rJP, rPP, rPI, rPJ, g1, g2, g3, g4, g5, g6, g7, g8, Nat.reduceEqDiff, Nat.reduceAdd, false_and, and_false, true_and, and_true, reduceIte, nZ0, nZ1, eτ71_98.1, eτ71_98.2, eτ71_100.1, eτ71_100.2, eτ71_102.1, eτ71_102.2, sτ71_30.1, sτ71_30.2, sτ71_32.1, sτ71_32.2, sτ71_92.1, sτ71_92.2, fun a k => (jτ71 a k).1, fun a k => (jτ71 a k).2, pτ71]
                  refine ⟨by (first | omega | with_reducible assumption | (unfold rng; omega) | (unfold rng; (repeat' split) <;> omega) | grind), ?_⟩
                  split
                  · rename_i hc118
                    skip
                    unfold w_X16_records_125
                    try simp only [forall_eq, rII, rIJ, rIP, rJJ, rJI, rJP, rPP, rPI, rPJ, g1, g2, g3, g4, g5, g6, g7, g8, Nat.reduceEqDiff, Nat.reduceAdd, false_and, and_false, true_and, and_true, reduceIte, nZ0, nZ1, eτ71_98.1, eτ71_98.2, eτ71_100.1, eτ71_100.2, eτ71_102.1, eτ71_102.2, sτ71_30.1, sτ71_30.2, sτ71_32.1, sτ71_32.2, sτ71_92.1, sτ71_92.2, fun a k => (jτ71 a k).1, fun a k => (jτ71 a k).2, pτ71]
                    unfold w_X16_records_126
                    try simp only [forall_eq, rII, rIJ, rIP, rJJ, rJI, rJP, rPP, rPI, rPJ, g1, g2, g3, g4, g5, g6, g7, g8, Nat.reduceEqDiff, Nat.reduceAdd, false_and, and_false, true_and, and_true, reduceIte, nZ0, nZ1, eτ71_98.1, eτ71_98.2, eτ71_100.1, eτ71_100.2, eτ71_102.1, eτ71_102.2, sτ71_30.1, sτ71_30.2, sτ71_32.1, sτ71_32.2, sτ71_92.1, sτ71_92.2, fun a k => (jτ71 a k).1, fun a k => (jτ71 a k).2, pτ71]
                    refine ⟨by (first | omega | with_reducible assumption | (unfold rng; omega) | (unfold rng; (repeat' split) <;> omega) | grind), ?_⟩
                    refine ⟨by (first | omega | with_reducible assumption | (unfold rng; omega) | (unfold rng; (repeat' split) <;> omega) | grind), ?_⟩
                    refine ih71 _ _ _ ?_ ?_ ?_ ?_
                    · exact rτ71
                    · exact fτ71
                    · (try simp only [rII, rIJ, rIP, rJJ, rJI, rJP, rPP, rPI, rPJ, g1, g2, g3, g4, g5, g6, g7, g8, Nat.reduceEqDiff, Nat.reduceAdd, false_and, and_false, true_and, and_true, reduceIte, nZ0, nZ1, eτ71_98.1, eτ71_98.2, eτ71_100.1, eτ71_100.2, eτ71_102.1, eτ71_102.2, sτ71_30.1, sτ71_30.2, sτ71_32.1, sτ71_32.2, sτ71_92.1, sτ71_92.2, fun a k => (jτ71 a k).1, fun a k => (jτ71 a k).2, pτ71]) <;> (first | omega | with_reducible assumption | (unfold rng; omega) | (unfold rng; (repeat' split) <;> omega) | grind)
                    · (try simp only [rII, rIJ, rIP, rJJ, rJI, rJP, rPP, rPI, rPJ, g1, g2, g3, g4, g5, g6, g7, g8, Nat.reduceEqDiff, Nat.reduceAdd, false_and, and_false, true_and, and_true, reduceIte, nZ0, nZ1, eτ71_98.1, eτ71_98.2, eτ71_100.1, eτ71_100.2, eτ71_102.1, eτ71_102.2, sτ71_30.1, sτ71_30.2, sτ71_32.1, sτ71_32.2, sτ71_92.1, sτ71_92.2, fun a k => (jτ71 a k).1, fun a k => (jτ71 a k).2, pτ71]) <;> (first | omega | with_reducible assumption | (unfold rng; omega) | (unfold rng; (repeat' split) <;> omega) | grind)
                  · rename_i hc118
                    skip
                    unfold w_X16_records_121
                    try simp only [forall_eq, rII, rIJ, rIP, rJJ, rJI, rJP, rPP, rPI, rPJ, g1, g2, g3, g4, g5, g6, g7, g8, Nat.reduceEqDiff, Nat.reduceAdd, false_and, and_false, true_and, and_true, reduceIte, nZ0, nZ1, eτ71_98.1, eτ71_98.2, eτ71_100.1, eτ71_100.2, eτ71_102.1, eτ71_102.2, sτ71_30.1, sτ71_30.2, sτ71_32.1, sτ71_32.2, sτ71_92.1, sτ71_92.2, fun a k => (jτ71 a k).1, fun a k => (jτ71 a k).2, pτ71]
                    unfold w_X16_records_126
                    try simp only [forall_eq, rII, rIJ, rIP, rJJ, rJI, rJP, rPP, rPI, rPJ, g1, g2, g3, g4, g5, g6, g7, g8, Nat.reduceEqDiff, Nat.reduceAdd, false_and, and_false, true_and, and_true, reduceIte, nZ0, nZ1, eτ71_98.1, eτ71_98.2, eτ71_100.1, eτ71_100.2, eτ71_102.1, eτ71_102.2, sτ71_30.1, sτ71_30.2, sτ71_32.1, sτ71_32.2, sτ71_92.1, sτ71_92.2, fun a k => (jτ71 a k).1, fun a k => (jτ71 a k).2, pτ71]
                    refine ⟨by (first | omega | with_reducible assumption | (unfold rng; omega) | (unfold rng; (repeat' split) <;> omega) | grind), ?_⟩
                    refine ⟨by (first | omega | with_reducible assumption | (unfold rng; omega) | (unfold rng; (repeat' split) <;> omega) | grind), ?_⟩
                    refine ih71 _ _ _ ?_ ?_ ?_ ?_
                    · exact rτ71
                    · exact fτ71
                    · (try simp only [rII, rIJ, rIP, rJJ, rJI, rJP, rPP, rPI, rPJ, g1, g2, g3, g4, g5, g6, g7, g8, Nat.reduceEqDiff, Nat.reduceAdd, false_and, and_false, true_and, and_true, reduceIte, nZ0, nZ1, eτ71_98.1, eτ71_98.2, eτ71_100.1, eτ71_100.2, eτ71_102.1, eτ71_102.2, sτ71_30.1, sτ71_30.2, sτ71_32.1, sτ71_32.2, sτ71_92.1, sτ71_92.2, fun a k => (jτ71 a k).1, fun a k => (jτ71 a k).2, pτ71]) <;> (first | omega | with_reducible assumption | (unfold rng; omega) | (unfold rng; (repeat' split) <;> omega) | grind)
                    · (try simp only [rII, rIJ, rIP, rJJ, rJI, rJP, rPP, rPI, rPJ, g1, g2, g3, g4, g5, g6, g7, g8, Nat.reduceEqDiff, Nat.reduceAdd, false_and, and_false, true_and, and_true, reduceIte, nZ0, nZ1, eτ71_98.1, eτ71_98.2, eτ71_100.1, eτ71_100.2, eτ71_102.1, eτ71_102.2, sτ71_30.1, sτ71_30.2, sτ71_32.1, sτ71_32.2, sτ71_92.1, sτ71_92.2, fun a k => (jτ71 a k).1, fun a k => (jτ71 a k).2, pτ71]) <;> (first | omega | with_reducible assumption | (unfold rng; omega) | (unfold rng; (repeat' split) <;> omega) | grind)
      refine ⟨_, L71 _ _ _ _ ?_ ?_ ?_ (Nat.lt_succ_self _)⟩
      · refine Rg.sI g ?_ (by simp only [rgS]; first | with_reducible exact nZ_rng _ | with_reducible exact nB_rng _ | with_reducible exact wr_rng _ | with_reducible exact i32any _ | (first | omega | with_reducible assumption | (unfold rng; omega) | (unfold rng; (repeat' split) <;> omega) | grind)); exact rσ
      · refine Fr.sI g ?_ (by decide); exact fσ
      · (try simp only [rII, rIJ, rIP, rJJ, rJI, rJP, rPP, rPI, rPJ, g1, g2, g3, g4, g5, g6, g7, g8, Nat.reduceEqDiff, Nat.reduceAdd, false_and, and_false, true_and, and_true, reduceIte, nZ0, nZ1]) <;> (first | omega | with_reducible assumption | (unfold rng; omega) | (unfold rng; (repeat' split) <;> omega) | grind)
set_option maxHeartbeats 4000000 in
theorem s2_X16_lineage {ra : Nat → Nat} {jx : Nat → Nat → Nat} {rm : Nat} {ja : Nat} (g : Geo ra jx rm) {σ : Sg} {v1 : Int} {v2 : Int} {v3 : Int} (rσ : Rg ra jx rm σ) (hj : gP σ rm 17 = none ∨ gP σ rm 17 = some ja) (hja : ja = ra 15 ∨ ja = ra 16) (hjo : gP σ rm 17 = some ja → JobOK jx ja σ) (hhe : HeE ra rm σ) (b1 : -2147483648 ≤ v1 ∧ v1 ≤ 2147483647) (b2 : -2147483648 ≤ v2 ∧ v2 ≤ 2147483647) (b3 : -2147483648 ≤ v3 ∧ v3 ≤ 2147483647) {Q : Sg → Int → Prop} {X : Sg → String → Prop} (hQ : ∀ (σ' : Sg) (r : Int), Rg ra jx rm σ' → Fr ra jx rm [] [0] σ σ' → (True) → Q σ' r) : wp_X16_lineage ra jx rm v1 v2 v3 σ Q X := by
  obtain ⟨g1, g2, g3, g4, g5, g6, g7, g8⟩ := id g
  have fσ : Fr ra jx rm [] [0] σ σ := Fr.rf
  unfold wp_X16_lineage
  unfold w_X16_lineage_0
  try simp only [forall_eq, rII, rIJ, rIP, rJJ, rJI, rJP, rPP, rPI, rPJ, g1, g2, g3, g4, g5, g6, g7, g8, Nat.reduceEqDiff, Nat.reduceAdd, false_and, and_false, true_and, and_true, reduceIte, nZ0, nZ1]
  refine s2_X16_isOutput g rσ (by exact hj) hja (by exact hjo) (by (try simp only [rII, rIJ, rIP, rJJ, rJI, rJP, rPP, rPI, rPJ, g1, g2, g3, g4, g5, g6, g7, g8, Nat.reduceEqDiff, Nat.reduceAdd, false_and, and_false, true_and, and_true, reduceIte, nZ0, nZ1]) <;> (first | omega | with_reducible assumption | (unfold rng; omega) | (unfold rng; (repeat' split) <;> omega) | grind)) (fun r18 p1 => ?_)
  try simp only [forall_eq, rII, rIJ, rIP, rJJ, rJI, rJP, rPP, rPI, rPJ, g1, g2, g3, g4, g5, g6, g7, g8, Nat.reduceEqDiff, Nat.reduceAdd, false_and, and_false, true_and, and_true, reduceIte, nZ0, nZ1]
  split
  · rename_i hc6
    skip
    unfold w_X16_lineage_35
    try simp only [forall_eq, rII, rIJ, rIP, rJJ, rJI, rJP, rPP, rPI, rPJ, g1, g2, g3, g4, g5, g6, g7, g8, Nat.reduceEqDiff, Nat.reduceAdd, false_and, and_false, true_and, and_true, reduceIte, nZ0, nZ1]
    unfold w_X16_lineage_36
    try simp only [forall_eq, rII, rIJ, rIP, rJJ, rJI, rJP, rPP, rPI, rPJ, g1, g2, g3, g4, g5, g6, g7, g8, Nat.reduceEqDiff, Nat.reduceAdd, false_and, and_false, true_and, and_true, reduceIte, nZ0, nZ1]
    try rw [if_neg (by decide)]
    unfold w_X16_lineage_46
    try simp only [forall_eq, rII, rIJ, rIP, rJJ, rJI, rJP, rPP, rPI, rPJ, g1, g2, g3, g4, g5, g6, g7, g8, Nat.reduceEqDiff, Nat.reduceAdd, false_and, and_false, true_and, and_true, reduceIte, nZ0, nZ1]
    refine hQ _ _ ?_ ?_ ?_
    · refine Rg.sI g ?_ (by simp only [rgS]; first | with_reducible exact nZ_rng _ | with_reducible exact nB_rng _ | with_reducible exact wr_rng _ | with_reducible exact i32any _ | (first | omega | with_reducible assumption | (unfold rng; omega) | (unfold rng; (repeat' split) <;> omega) | grind)); exact rσ
    · refine Fr.sI g ?_ (by decide); exact fσ
    · exact trivial
  · rename_i hc6
    skip
    unfold w_X16_lineage_9
    try simp only [forall_eq, rII, rIJ, rIP, rJJ, rJI, rJP, rPP, rPI, rPJ, g1, g2, g3, g4, g5, g6, g7, g8, Nat.reduceEqDiff, Nat.reduceAdd, false_and, and_false, true_and, and_true, reduceIte, nZ0, nZ1]
    refine ⟨by (first | omega | with_reducible assumption | (unfold rng; omega) | (unfold rng; (repeat' split) <;> omega) | grind), ?_⟩
    refine ⟨by (first | omega | with_reducible assumption | (unfold rng; omega) | (unfold rng; (repeat' split) <;> omega) | grind), ?_⟩
    refine ⟨by (first | omega | with_reducible assumption | (unfold rng; omega) | (unfold rng; (repeat' split) <;> omega) | grind), ?_⟩
    have q2 := rσ.1 89 (((3 * v1) + 2).toNat); simp only [rgT] at q2
    refine ⟨by (first | omega | with_reducible assumption | (unfold rng; omega) | (unfold rng; (repeat' split) <;> omega) | grind), ?_⟩
    refine s_X16_within g rσ (fun r21 p3 => ?_)
    obtain ⟨p3, p3b⟩ := p3
    have p3w : r21 = 1 → 0 ≤ v2 ∧ v2 ≤ ((gI σ (ra 89) ((3 * v1) + 2).toNat) - 1) := fun e => win2 (by (first | omega | with_reducible assumption | (unfold rng; omega) | (unfold rng; (repeat' split) <;> omega) | grind)) (by (first | omega | with_reducible assumption | (unfold rng; omega) | (unfold rng; (repeat' split) <;> omega) | grind)) (by (first | omega | with_reducible assumption | (unfold rng; omega) | (unfold rng; (repeat' split) <;> omega) | grind)) (p3b e)
    try simp only [forall_eq, rII, rIJ, rIP, rJJ, rJI, rJP, rPP, rPI, rPJ, g1, g2, g3, g4, g5, g6, g7, g8, Nat.reduceEqDiff, Nat.reduceAdd, false_and, and_false, true_and, and_true, reduceIte, nZ0, nZ1]
    split
    · rename_i hc28
      skip
      unfold w_X16_lineage_35
      try simp only [forall_eq, rII, rIJ, rIP, rJJ, rJI, rJP, rPP, rPI, rPJ, g1, g2, g3, g4, g5, g6, g7, g8, Nat.reduceEqDiff, Nat.reduceAdd, false_and, and_false, true_and, and_true, reduceIte, nZ0, nZ1]
      unfold w_X16_lineage_36
      try simp only [forall_eq, rII, rIJ, rIP, rJJ, rJI, rJP, rPP, rPI, rPJ, g1, g2, g3, g4, g5, g6, g7, g8, Nat.reduceEqDiff, Nat.reduceAdd, false_and, and_false, true_and, and_true, reduceIte, nZ0, nZ1]
      try rw [if_neg (by decide)]
      unfold w_X16_lineage_46
      try simp only [forall_eq, rII, rIJ, rIP, rJJ, rJI, rJP, rPP, rPI, rPJ, g1, g2, g3, g4, g5, g6, g7, g8, Nat.reduceEqDiff, Nat.reduceAdd, false_and, and_false, true_and, and_true, reduceIte, nZ0, nZ1]
      refine hQ _ _ ?_ ?_ ?_
      · refine Rg.sI g ?_ (by simp only [rgS]; first | with_reducible exact nZ_rng _ | with_reducible exact nB_rng _ | with_reducible exact wr_rng _ | with_reducible exact i32any _ | (first | omega | with_reducible assumption | (unfold rng; omega) | (unfold rng; (repeat' split) <;> omega) | grind)); exact rσ
      · refine Fr.sI g ?_ (by decide); exact fσ
      · exact trivial
    · rename_i hc28
      skip
      unfold w_X16_lineage_31
      try simp only [forall_eq, rII, rIJ, rIP, rJJ, rJI, rJP, rPP, rPI, rPJ, g1, g2, g3, g4, g5, g6, g7, g8, Nat.reduceEqDiff, Nat.reduceAdd, false_and, and_false, true_and, and_true, reduceIte, nZ0, nZ1]
      unfold w_X16_lineage_36
      try simp only [forall_eq, rII, rIJ, rIP, rJJ, rJI, rJP, rPP, rPI, rPJ, g1, g2, g3, g4, g5, g6, g7, g8, Nat.reduceEqDiff, Nat.reduceAdd, false_and, and_false, true_and, and_true, reduceIte, nZ0, nZ1]
      try rw [if_pos (by decide)]
      unfold w_X16_lineage_48
      try simp only [forall_eq, rII, rIJ, rIP, rJJ, rJI, rJP, rPP, rPI, rPJ, g1, g2, g3, g4, g5, g6, g7, g8, Nat.reduceEqDiff, Nat.reduceAdd, false_and, and_false, true_and, and_true, reduceIte, nZ0, nZ1]
      refine s_X16_visibleAt g (by refine Rg.sI g ?_ (by simp only [rgS]; first | with_reducible exact nZ_rng _ | with_reducible exact nB_rng _ | with_reducible exact wr_rng _ | with_reducible exact i32any _ | (first | omega | with_reducible assumption | (unfold rng; omega) | (unfold rng; (repeat' split) <;> omega) | grind)); exact rσ) (HeE.fr (jx := jx) (K := []) (S := [0]) hhe (by repeat (first | exact Fr.rf | assumption | refine Fr.aJ g ?_ (by decide) | refine Fr.aI g ?_ (by decide) | refine Fr.sI g ?_ (by decide) | refine Fr.sJ g ?_ (by decide))) (by decide) (by decide)) (by (try simp only [rII, rIJ, rIP, rJJ, rJI, rJP, rPP, rPI, rPJ, g1, g2, g3, g4, g5, g6, g7, g8, Nat.reduceEqDiff, Nat.reduceAdd, false_and, and_false, true_and, and_true, reduceIte, nZ0, nZ1]) <;> (first | omega | with_reducible assumption | (unfold rng; omega) | (unfold rng; (repeat' split) <;> omega) | grind)) (by (try simp only [rII, rIJ, rIP, rJJ, rJI, rJP, rPP, rPI, rPJ, g1, g2, g3, g4, g5, g6, g7, g8, Nat.reduceEqDiff, Nat.reduceAdd, false_and, and_false, true_and, and_true, reduceIte, nZ0, nZ1]) <;> (first | omega | with_reducible assumption | (unfold rng; omega) | (unfold rng; (repeat' split) <;> omega) | grind)) (fun r25 p4 => ?_)
      try simp only [forall_eq, rII, rIJ, rIP, rJJ, rJI, rJP, rPP, rPI, rPJ, g1, g2, g3, g4, g5, g6, g7, g8, Nat.reduceEqDiff, Nat.reduceAdd, false_and, and_false, true_and, and_true, reduceIte, nZ0, nZ1]
      refine ⟨by (first | omega | with_reducible assumption | (unfold rng; omega) | (unfold rng; (repeat' split) <;> omega) | grind), ?_⟩
      have q5 := rσ.1 85 (r25.toNat); simp only [rgT] at q5
      have L70 : ∀ (fu70 : Nat) (τ70 : Sg) (v5 : Int) (v6 : Int) (v7 : Int), Rg ra jx rm τ70 → Fr ra jx rm [] [0] σ τ70 → (0 ≤ v7 ∧ v7 ≤ 256 ∧ 0 ≤ v5 ∧ v5 ≤ v7 ∧ -1 ≤ v6 ∧ v6 ≤ 256) → ((256 - v7).toNat) < fu70 → wl_X16_lineage_70 ra jx rm Q X fu70 τ70 v3 (gI σ (ra 85) r25.toNat) v5 v6 v7 := by
        intro fu70
        induction fu70 with
        | zero => intro τ70 _ _ _ _ _ _ h9; omega
        | succ fu70 ih70 =>
          intro τ70 v5 v6 v7 rτ70 fτ70 hi70 hm70
          unfold wl_X16_lineage_70
          have eτ70_26 := fτ70.1 26 (by decide)
          have eτ70_85 := fτ70.1 85 (by decide)
          have eτ70_89 := fτ70.1 89 (by decide)
          have jτ70 := fτ70.2.2.1
          unfold w_X16_lineage_70
          try simp only [forall_eq, rII, rIJ, rIP, rJJ, rJI, rJP, rPP, rPI, rPJ, g1, g2, g3, g4, g5, g6, g7, g8, Nat.reduceEqDiff, Nat.reduceAdd, false_and, and_false, true_and, and_true, reduceIte, nZ0, nZ1, eτ70_26.1, eτ70_26.2, eτ70_85.1, eτ70_85.2, eτ70_89.1, eτ70_89.2, fun a k => (jτ70 a k).1, fun a k => (jτ70 a k).2]
          split
          · rename_i hc75
            skip
            unfold w_X16_lineage_130
            try simp only [forall_eq, rII, rIJ, rIP, rJJ, rJI, rJP, rPP, rPI, rPJ, g1, g2, g3, g4, g5, g6, g7, g8, Nat.reduceEqDiff, Nat.reduceAdd, false_and, and_false, true_and, and_true, reduceIte, nZ0, nZ1, eτ70_26.1, eτ70_26.2, eτ70_85.1, eτ70_85.2, eτ70_89.1, eτ70_89.2, fun a k => (jτ70 a k).1, fun a k => (jτ70 a k).2]
            split
            · rename_i hc132
              skip
              unfold w_X16_lineage_138
              try simp only [forall_eq, rII, rIJ, rIP, rJJ, rJI, rJP, rPP, rPI, rPJ, g1, g2, g3, g4, g5, g6, g7, g8, Nat.reduceEqDiff, Nat.reduceAdd, false_and, and_false, true_and, and_true, reduceIte, nZ0, nZ1, eτ70_26.1, eτ70_26.2, eτ70_85.1, eτ70_85.2, eτ70_89.1, eτ70_89.2, fun a k => (jτ70 a k).1, fun a k => (jτ70 a k).2]
              split
              · rename_i hc142
                skip
                unfold w_X16_lineage_149
                try simp only [forall_eq, rII, rIJ, rIP, rJJ, rJI, rJP, rPP, rPI, rPJ, g1, g2, g3, g4, g5, g6, g7, g8, Nat.reduceEqDiff, Nat.reduceAdd, false_and, and_false, true_and, and_true, reduceIte, nZ0, nZ1, eτ70_26.1, eτ70_26.2, eτ70_85.1, eτ70_85.2, eτ70_89.1, eτ70_89.2, fun a k => (jτ70 a k).1, fun a k => (jτ70 a k).2]
                unfold w_X16_lineage_150
                try simp only [forall_eq, rII, rIJ, rIP, rJJ, rJI, rJP, rPP, rPI, rPJ, g1, g2, g3, g4, g5, g6, g7, g8, Nat.reduceEqDiff, Nat.reduceAdd, false_and, and_false, true_and, and_true, reduceIte, nZ0, nZ1, eτ70_26.1, eτ70_26.2, eτ70_85.1, eτ70_85.2, eτ70_89.1, eτ70_89.2, fun a k => (jτ70 a k).1, fun a k => (jτ70 a k).2]
                try rw [if_pos (by decide)]
                unfold w_X16_lineage_164
                try simp only [forall_eq, rII, rIJ, rIP, rJJ, rJI, rJP, rPP, rPI, rPJ, g1, g2, g3, g4, g5, g6, g7, g8, Nat.reduceEqDiff, Nat.reduceAdd, false_and, and_false, true_and, and_true, reduceIte, nZ0, nZ1, eτ70_26.1, eτ70_26.2, eτ70_85.1, eτ70_85.2, eτ70_89.1, eτ70_89.2, fun a k => (jτ70 a k).1, fun a k => (jτ70 a k).2]
                unfold w_X16_lineage_166
                try simp only [forall_eq, rII, rIJ, rIP, rJJ, rJI, rJP, rPP, rPI, rPJ, g1, g2, g3, g4, g5, g6, g7, g8, Nat.reduceEqDiff, Nat.reduceAdd, false_and, and_false, true_and, and_true, reduceIte, nZ0, nZ1, eτ70_26.1, eτ70_26.2, eτ70_85.1, eτ70_85.2, eτ70_89.1, eτ70_89.2, fun a k => (jτ70 a k).1, fun a k => (jτ70 a k).2]
                refine hQ _ _ ?_ ?_ ?_
                · refine Rg.sI g ?_ (by simp only [rgS]; first | with_reducible exact nZ_rng _ | with_reducible exact nB_rng _ | with_reducible exact wr_rng _ | with_reducible exact i32any _ | (first | omega | with_reducible assumption | (unfold rng; omega) | (unfold rng; (repeat' split) <;> omega) | grind)); exact rτ70
                · refine Fr.sI g ?_ (by decide); exact fτ70
                · exact trivial
              · rename_i hc142
                skip
                unfold w_X16_lineage_145
                try simp only [forall_eq, rII, rIJ, rIP, rJJ, rJI, rJP, rPP, rPI, rPJ, g1, g2, g3, g4, g5, g6, g7, g8, Nat.reduceEqDiff, Nat.reduceAdd, false_and, and_false, true_and, and_true, reduceIte, nZ0, nZ1, eτ70_26.1, eτ70_26.2, eτ70_85.1, eτ70_85.2, eτ70_89.1, eτ70_89.2, fun a k => (jτ70 a k).1, fun a k => (jτ70 a k).2]
                unfold w_X16_lineage_150
                try simp only [forall_eq, rII, rIJ, rIP, rJJ, rJI, rJP, rPP, rPI, rPJ, g1, g2, g3, g4, g5, g6, g7, g8, Nat.reduceEqDiff, Nat.reduceAdd, false_and, and_false, true_and, and_true, reduceIte, nZ0, nZ1, eτ70_26.1, eτ70_26.2, eτ70_85.1, eτ70_85.2, eτ70_89.1, eτ70_89.2, fun a k => (jτ70 a k).1, fun a k => (jτ70 a k).2]
                try rw [if_neg (by decide)]
                unfold w_X16_lineage_160
                try simp only [forall_eq, rII, rIJ, rIP, rJJ, rJI, rJP, rPP, rPI, rPJ, g1, g2, g3, g4, g5, g6, g7, g8, Nat.reduceEqDiff, Nat.reduceAdd, false_and, and_false, true_and, and_true, reduceIte, nZ0, nZ1, eτ70_26.1, eτ70_26.2, eτ70_85.1, eτ70_85.2, eτ70_89.1, eτ70_89.2, fun a k => (jτ70 a k).1, fun a k => (jτ70 a k).2]
                unfold w_X16_lineage_166
                try simp only [forall_eq, rII, rIJ, rIP, rJJ, rJI, rJP, rPP, rPI, rPJ, g1, g2, g3, g4, g5, g6, g7, g8, Nat.reduceEqDiff, Nat.reduceAdd, false_and, and_false, true_and, and_true, reduceIte, nZ0, nZ1, eτ70_26.1, eτ70_26.2, eτ70_85.1, eτ70_85.2, eτ70_89.1, eτ70_89.2, fun a k => (jτ70 a k).1, fun a k => (jτ70 a k).2]
                refine hQ _ _ ?_ ?_ ?_
                · refine Rg.sI g ?_ (by simp only [rgS]; first | with_reducible exact nZ_rng _ | with_reducible exact nB_rng _ | with_reducible exact wr_rng _ | with_reducible exact i32any _ | (first | omega | with_reducible assumption | (unfold rng; omega) | (unfold rng; (repeat' split) <;> omega) | grind)); exact rτ70
                · refine Fr.sI g ?_ (by decide); exact fτ70
                · exact trivial
            · rename_i hc132
              skip
              unfold w_X16_lineage_135
              try simp only [forall_eq, rII, rIJ, rIP, rJJ, rJI, rJP, rPP, rPI, rPJ, g1, g2, g3, g4, g5, g6, g7, g8, Nat.reduceEqDiff, Nat.reduceAdd, false_and, and_false, true_and, and_true, reduceIte, nZ0, nZ1, eτ70_26.1, eτ70_26.2, eτ70_85.1, eτ70_85.2, eτ70_89.1, eτ70_89.2, fun a k => (jτ70 a k).1, fun a k => (jτ70 a k).2]
              refine hQ _ _ ?_ ?_ ?_
              · exact rτ70
              · exact fτ70
              · exact trivial
          · rename_i hc75
            skip
            unfold w_X16_lineage_78
            try simp only [forall_eq, rII, rIJ, rIP, rJJ, rJI, rJP, rPP, rPI, rPJ, g1, g2, g3, g4, g5, g6, g7, g8, Nat.reduceEqDiff, Nat.reduceAdd, false_and, and_false, true_and, and_true, reduceIte, nZ0, nZ1, eτ70_26.1, eτ70_26.2, eτ70_85.1, eτ70_85.2, eτ70_89.1, eτ70_89.2, fun a k => (jτ70 a k).1, fun a k => (jτ70 a k).2]
            refine ⟨by (first | omega | with_reducible assumption | (unfold rng; omega) | (unfold rng; (repeat' split) <;> omega) | grind), ?_⟩
            have q6 := divI_eq (x := v7) (y := 64) (by (first | omega | with_reducible assumption | (unfold rng; omega) | (unfold rng; (repeat' split) <;> omega) | grind)) (by (first | omega | with_reducible assumption | (unfold rng; omega) | (unfold rng; (repeat' split) <;> omega) | grind))
            refine ⟨by (first | omega | with_reducible assumption | (unfold rng; omega) | (unfold rng; (repeat' split) <;> omega) | grind), ?_⟩
            refine ⟨by (first | omega | with_reducible assumption | (unfold rng; omega) | (unfold rng; (repeat' split) <;> omega) | grind), ?_⟩
            have q7 := remI_eq (x := v7) (y := 64) (by (first | omega | with_reducible assumption | (unfold rng; omega) | (unfold rng; (repeat' split) <;> omega) | grind)) (by (first | omega | with_reducible assumption | (unfold rng; omega) | (unfold rng; (repeat' split) <;> omega) | grind))
            split
            · rename_i hc103
              skip
              unfold w_X16_lineage_124
              try simp only [forall_eq, rII, rIJ, rIP, rJJ, rJI, rJP, rPP, rPI, rPJ, g1, g2, g3, g4, g5, g6, g7, g8, Nat.reduceEqDiff, Nat.reduceAdd, false_and, and_false, true_and, and_true, reduceIte, nZ0, nZ1, eτ70_26.1, eτ70_26.2, eτ70_85.1, eτ70_85.2, eτ70_89.1, eτ70_89.2, fun a k => (jτ70 a k).1, fun a k => (jτ70 a k).2]
              refine ⟨by (first | omega | with_reducible assumption | (unfold rng; omega) | (unfold rng; (repeat' split) <;> omega) | grind), ?_⟩
              refine ih70 _ _ _ _ ?_ ?_ ?_ ?_
              · exact rτ70
              · exact fτ70
              · (try simp only [rII, rIJ, rIP, rJJ, rJI, rJP, rPP, rPI, rPJ, g1, g2, g3, g4, g5, g6, g7, g8, Nat.reduceEqDiff, Nat.reduceAdd, false_and, and_false, true_and, and_true, reduceIte, nZ0, nZ1, eτ70_26.1, eτ70_26.2, eτ70_85.1, eτ70_85.2, eτ70_89.1, eτ70_89.2, fun a k => (jτ70 a k).1, fun a k => (jτ70 a k).2]) <;> (first | omega | with_reducible assumption | (unfold rng; omega) | (unfold rng; (repeat' split) <;> omega) | grind)
              · (try simp only [rII, rIJ, rIP, rJJ, rJI, rJP, rPP, rPI, rPJ, g1, g2, g3, g4, g5, g6, g7, g8, Nat.reduceEqDiff, Nat.reduceAdd, false_and, and_false, true_and, and_true, reduceIte, nZ0, nZ1, eτ70_26.1, eτ70_26.2, eτ70_85.1, eτ70_85.2, eτ70_89.1, eτ70_89.2, fun a k => (jτ70 a k).1, fun a k => (jτ70 a k).2]) <;> (first | omega | with_reducible assumption | (unfold rng; omega) | (unfold rng; (repeat' split) <;> omega) | grind)
            · rename_i hc103
              skip
              unfold w_X16_lineage_106
              try simp only [forall_eq, rII, rIJ, rIP, rJJ, rJI, rJP, rPP, rPI, rPJ, g1, g2, g3, g4, g5, g6, g7, g8, Nat.reduceEqDiff, Nat.reduceAdd, false_and, and_false, true_and, and_true, reduceIte, nZ0, nZ1, eτ70_26.1, eτ70_26.2, eτ70_85.1, eτ70_85.2, eτ70_89.1, eτ70_89.2, fun a k => (jτ70 a k).1, fun a k => (jτ70 a k).2]
              split
              · rename_i hc109
                skip
                unfold w_X16_lineage_117
                try simp only [forall_eq, rII, rIJ, rIP, rJJ, rJI, rJP, rPP, rPI, rPJ, g1, g2, g3, g4, g5, g6, g7, g8, Nat.reduceEqDiff, Nat.reduceAdd, false_and, and_false, true_and, and_true, reduceIte, nZ0, nZ1, eτ70_26.1, eτ70_26.2, eτ70_85.1, eτ70_85.2, eτ70_89.1, eτ70_89.2, fun a k => (jτ70 a k).1, fun a k => (jτ70 a k).2]
                unfold w_X16_lineage_119
                try simp only [forall_eq, rII, rIJ, rIP, rJJ, rJI, rJP, rPP, rPI, rPJ, g1, g2, g3, g4, g5, g6, g7, g8, Nat.reduceEqDiff, Nat.reduceAdd, false_and, and_false, true_and, and_true, reduceIte, nZ0, nZ1, eτ70_26.1, eτ70_26.2, eτ70_85.1, eτ70_85.2, eτ70_89.1, eτ70_89.2, fun a k => (jτ70 a k).1, fun a k => (jτ70 a k).2]
                refine ⟨by (first | omega | with_reducible assumption | (unfold rng; omega) | (unfold rng; (repeat' split) <;> omega) | grind), ?_⟩
                unfold w_X16_lineage_124
                try simp only [forall_eq, rII, rIJ, rIP, rJJ, rJI, rJP, rPP, rPI, rPJ, g1, g2, g3, g4, g5, g6, g7, g8, Nat.reduceEqDiff, Nat.reduceAdd, false_and, and_false, true_and, and_true, reduceIte, nZ0, nZ1, eτ70_26.1, eτ70_26.2, eτ70_85.1, eτ70_85.2, eτ70_89.1, eτ70_89.2, fun a k => (jτ70 a k).1, fun a k => (jτ70 a k).2]
                refine ⟨by (first | omega | with_reducible assumption | (unfold rng; omega) | (unfold rng; (repeat' split) <;> omega) | grind), ?_⟩
                refine ih70 _ _ _ _ ?_ ?_ ?_ ?_
                · exact rτ70
                · exact fτ70
                · (try simp only [rII, rIJ, rIP, rJJ, rJI, rJP, rPP, rPI, rPJ, g1, g2, g3, g4, g5, g6, g7, g8, Nat.reduceEqDiff, Nat.reduceAdd, false_and, and_false, true_and, and_true, reduceIte, nZ0, nZ1, eτ70_26.1, eτ70_26.2, eτ70_85.1, eτ70_85.2, eτ70_89.1, eτ70_89.2, fun a k => (jτ70 a k).1, fun a k => (jτ70 a k).2]) <;> (first | omega | with_reducible assumption | (unfold rng; omega) | (unfold rng; (repeat' split) <;> omega) | grind)
                · (try simp only [rII, rIJ, rIP, rJJ, rJI, rJP, rPP, rPI, rPJ, g1, g2, g3, g4, g5, g6, g7, g8, Nat.reduceEqDiff, Nat.reduceAdd, false_and, and_false, true_and, and_true, reduceIte, nZ0, nZ1, eτ70_26.1, eτ70_26.2, eτ70_85.1, eτ70_85.2, eτ70_89.1, eτ70_89.2, fun a k => (jτ70 a k).1, fun a k => (jτ70 a k).2]) <;> (first | omega | with_reducible assumption | (unfold rng; omega) | (unfold rng; (repeat' split) <;> omega) | grind)
              · rename_i hc109
                skip
                unfold w_X16_lineage_112
                try simp only [forall_eq, rII, rIJ, rIP, rJJ, rJI, rJP, rPP, rPI, rPJ, g1, g2, g3, g4, g5, g6, g7, g8, Nat.reduceEqDiff, Nat.reduceAdd, false_and, and_false, true_and, and_true, reduceIte, nZ0, nZ1, eτ70_26.1, eτ70_26.2, eτ70_85.1, eτ70_85.2, eτ70_89.1, eτ70_89.2, fun a k => (jτ70 a k).1, fun a k => (jτ70 a k).2]
                unfold w_X16_lineage_119
                try simp only [forall_eq, rII, rIJ, rIP, rJJ, rJI, rJP, rPP, rPI, rPJ, g1, g2, g3, g4, g5, g6, g7, g8, Nat.reduceEqDiff, Nat.reduceAdd, false_and, and_false, true_and, and_true, reduceIte, nZ0, nZ1, eτ70_26.1, eτ70_26.2, eτ70_85.1, eτ70_85.2, eτ70_89.1, eτ70_89.2, fun a k => (jτ70 a k).1, fun a k => (jτ70 a k).2]
                refine ⟨by (first | omega | with_reducible assumption | (unfold rng; omega) | (unfold rng; (repeat' split) <;> omega) | grind), ?_⟩
                unfold w_X16_lineage_124
                try simp only [forall_eq, rII, rIJ, rIP, rJJ, rJI, rJP, rPP, rPI, rPJ, g1, g2, g3, g4, g5, g6, g7, g8, Nat.reduceEqDiff, Nat.reduceAdd, false_and, and_false, true_and, and_true, reduceIte, nZ0, nZ1, eτ70_26.1, eτ70_26.2, eτ70_85.1, eτ70_85.2, eτ70_89.1, eτ70_89.2, fun a k => (jτ70 a k).1, fun a k => (jτ70 a k).2]
                refine ⟨by (first | omega | with_reducible assumption | (unfold rng; omega) | (unfold rng; (repeat' split) <;> omega) | grind), ?_⟩
                refine ih70 _ _ _ _ ?_ ?_ ?_ ?_
                · exact rτ70
                · exact fτ70
                · (try simp only [rII, rIJ, rIP, rJJ, rJI, rJP, rPP, rPI, rPJ, g1, g2, g3, g4, g5, g6, g7, g8, Nat.reduceEqDiff, Nat.reduceAdd, false_and, and_false, true_and, and_true, reduceIte, nZ0, nZ1, eτ70_26.1, eτ70_26.2, eτ70_85.1, eτ70_85.2, eτ70_89.1, eτ70_89.2, fun a k => (jτ70 a k).1, fun a k => (jτ70 a k).2]) <;> (first | omega | with_reducible assumption | (unfold rng; omega) | (unfold rng; (repeat' split) <;> omega) | grind)
                · (try simp only [rII, rIJ, rIP, rJJ, rJI, rJP, rPP, rPI, rPJ, g1, g2, g3, g4, g5, g6, g7, g8, Nat.reduceEqDiff, Nat.reduceAdd, false_and, and_false, true_and, and_true, reduceIte, nZ0, nZ1, eτ70_26.1, eτ70_26.2, eτ70_85.1, eτ70_85.2, eτ70_89.1, eτ70_89.2, fun a k => (jτ70 a k).1, fun a k => (jτ70 a k).2]) <;> (first | omega | with_reducible assumption | (unfold rng; omega) | (unfold rng; (repeat' split) <;> omega) | grind)
      refine ⟨_, L70 _ _ _ _ _ ?_ ?_ ?_ (Nat.lt_succ_self _)⟩
      · refine Rg.sI g ?_ (by simp only [rgS]; first | with_reducible exact nZ_rng _ | with_reducible exact nB_rng _ | with_reducible exact wr_rng _ | with_reducible exact i32any _ | (first | omega | with_reducible assumption | (unfold rng; omega) | (unfold rng; (repeat' split) <;> omega) | grind)); exact rσ
      · refine Fr.sI g ?_ (by decide); exact fσ
      · (try simp only [rII, rIJ, rIP, rJJ, rJI, rJP, rPP, rPI, rPJ, g1, g2, g3, g4, g5, g6, g7, g8, Nat.reduceEqDiff, Nat.reduceAdd, false_and, and_false, true_and, and_true, reduceIte, nZ0, nZ1]) <;> (first | omega | with_reducible assumption | (unfold rng; omega) | (unfold rng; (repeat' split) <;> omega) | grind)
set_option maxHeartbeats 4000000 in
theorem s2_X16_row {ra : Nat → Nat} {jx : Nat → Nat → Nat} {rm : Nat} {ja : Nat} (g : Geo ra jx rm) {σ : Sg} {v1 : Int} {v2 : Int} {v3 : Int} (rσ : Rg ra jx rm σ) (hj : gP σ rm 17 = none ∨ gP σ rm 17 = some ja) (hja : ja = ra 15 ∨ ja = ra 16) (hjo : gP σ rm 17 = some ja → JobOK jx ja σ) (hhe : HeE ra rm σ) (b1 : -2147483648 ≤ v1 ∧ v1 ≤ 2147483647) (b2 : -2147483648 ≤ v2 ∧ v2 ≤ 2147483647) (b3 : -2147483648 ≤ v3 ∧ v3 ≤ 2147483647) {Q : Sg → Int64 → Prop} {X : Sg → String → Prop} (hQ : ∀ (σ' : Sg) (r : Int64), Rg ra jx rm σ' → Fr ra jx rm [] [0] σ σ' → (True) → Q σ' r) : wp_X16_row ra jx rm v1 v2 v3 σ Q X := by
  obtain ⟨g1, g2, g3, g4, g5, g6, g7, g8⟩ := id g
  have fσ : Fr ra jx rm [] [0] σ σ := Fr.rf
  unfold wp_X16_row
  unfold w_X16_row_0
  try simp only [forall_eq, rII, rIJ, rIP, rJJ, rJI, rJP, rPP, rPI, rPJ, g1, g2, g3, g4, g5, g6, g7, g8, Nat.reduceEqDiff, Nat.reduceAdd, false_and, and_false, true_and, and_true, reduceIte, nZ0, nZ1]
  refine s2_X16_isOutput g rσ (by exact hj) hja (by exact hjo) (by (try simp only [rII, rIJ, rIP, rJJ, rJI, rJP, rPP, rPI, rPJ, g1, g2, g3, g4, g5, g6, g7, g8, Nat.reduceEqDiff, Nat.reduceAdd, false_and, and_false, true_and, and_true, reduceIte, nZ0, nZ1]) <;> (first | omega | with_reducible assumption | (unfold rng; omega) | (unfold rng; (repeat' split) <;> omega) | grind)) (fun r26 p1 => ?_)
  try simp only [forall_eq, rII, rIJ, rIP, rJJ, rJI, rJP, rPP, rPI, rPJ, g1, g2, g3, g4, g5, g6, g7, g8, Nat.reduceEqDiff, Nat.reduceAdd, false_and, and_false, true_and, and_true, reduceIte, nZ0, nZ1]
  have io9 := p1
  split
  · rename_i hc6
    skip
    unfold w_X16_row_62
    try simp only [forall_eq, rII, rIJ, rIP, rJJ, rJI, rJP, rPP, rPI, rPJ, g1, g2, g3, g4, g5, g6, g7, g8, Nat.reduceEqDiff, Nat.reduceAdd, false_and, and_false, true_and, and_true, reduceIte, nZ0, nZ1]
    unfold w_X16_row_63
    try simp only [forall_eq, rII, rIJ, rIP, rJJ, rJI, rJP, rPP, rPI, rPJ, g1, g2, g3, g4, g5, g6, g7, g8, Nat.reduceEqDiff, Nat.reduceAdd, false_and, and_false, true_and, and_true, reduceIte, nZ0, nZ1]
    try rw [if_neg (by decide)]
    unfold w_X16_row_73
    try simp only [forall_eq, rII, rIJ, rIP, rJJ, rJI, rJP, rPP, rPI, rPJ, g1, g2, g3, g4, g5, g6, g7, g8, Nat.reduceEqDiff, Nat.reduceAdd, false_and, and_false, true_and, and_true, reduceIte, nZ0, nZ1]
    refine hQ _ _ ?_ ?_ ?_
    · refine Rg.sI g ?_ (by simp only [rgS]; first | with_reducible exact nZ_rng _ | with_reducible exact nB_rng _ | with_reducible exact wr_rng _ | with_reducible exact i32any _ | (first | omega | with_reducible assumption | (unfold rng; omega) | (unfold rng; (repeat' split) <;> omega) | grind)); exact rσ
    · refine Fr.sI g ?_ (by decide); exact fσ
    · exact trivial
  · rename_i hc6
    skip
    unfold w_X16_row_9
    try simp only [forall_eq, rII, rIJ, rIP, rJJ, rJI, rJP, rPP, rPI, rPJ, g1, g2, g3, g4, g5, g6, g7, g8, Nat.reduceEqDiff, Nat.reduceAdd, false_and, and_false, true_and, and_true, reduceIte, nZ0, nZ1]
    refine ⟨by (first | omega | with_reducible assumption | (unfold rng; omega) | (unfold rng; (repeat' split) <;> omega) | grind), ?_⟩
    refine ⟨by (first | omega | with_reducible assumption | (unfold rng; omega) | (unfold rng; (repeat' split) <;> omega) | grind), ?_⟩
    refine ⟨by (first | omega | with_reducible assumption | (unfold rng; omega) | (unfold rng; (repeat' split) <;> omega) | grind), ?_⟩
    have q2 := rσ.1 89 (((3 * v1) + 2).toNat); simp only [rgT] at q2
    refine ⟨by (first | omega | with_reducible assumption | (unfold rng; omega) | (unfold rng; (repeat' split) <;> omega) | grind), ?_⟩
    refine s_X16_within g rσ (fun r29 p3 => ?_)
    obtain ⟨p3, p3b⟩ := p3
    have p3w : r29 = 1 → 0 ≤ v2 ∧ v2 ≤ ((gI σ (ra 89) ((3 * v1) + 2).toNat) - 1) := fun e => win2 (by (first | omega | with_reducible assumption | (unfold rng; omega) | (unfold rng; (repeat' split) <;> omega) | grind)) (by (first | omega | with_reducible assumption | (unfold rng; omega) | (unfold rng; (repeat' split) <;> omega) | grind)) (by (first | omega | with_reducible assumption | (unfold rng; omega) | (unfold rng; (repeat' split) <;> omega) | grind)) (p3b e)
    try simp only [forall_eq, rII, rIJ, rIP, rJJ, rJI, rJP, rPP, rPI, rPJ, g1, g2, g3, g4, g5, g6, g7, g8, Nat.reduceEqDiff, Nat.reduceAdd, false_and, and_false, true_and, and_true, reduceIte, nZ0, nZ1]
    split
    · rename_i hc28
      skip
      unfold w_X16_row_62
      try simp only [forall_eq, rII, rIJ, rIP, rJJ, rJI, rJP, rPP, rPI, rPJ, g1, g2, g3, g4, g5, g6, g7, g8, Nat.reduceEqDiff, Nat.reduceAdd, false_and, and_false, true_and, and_true, reduceIte, nZ0, nZ1]
      unfold w_X16_row_63
      try simp only [forall_eq, rII, rIJ, rIP, rJJ, rJI, rJP, rPP, rPI, rPJ, g1, g2, g3, g4, g5, g6, g7, g8, Nat.reduceEqDiff, Nat.reduceAdd, false_and, and_false, true_and, and_true, reduceIte, nZ0, nZ1]
      try rw [if_neg (by decide)]
      unfold w_X16_row_73
      try simp only [forall_eq, rII, rIJ, rIP, rJJ, rJI, rJP, rPP, rPI, rPJ, g1, g2, g3, g4, g5, g6, g7, g8, Nat.reduceEqDiff, Nat.reduceAdd, false_and, and_false, true_and, and_true, reduceIte, nZ0, nZ1]
      refine hQ _ _ ?_ ?_ ?_
      · refine Rg.sI g ?_ (by simp only [rgS]; first | with_reducible exact nZ_rng _ | with_reducible exact nB_rng _ | with_reducible exact wr_rng _ | with_reducible exact i32any _ | (first | omega | with_reducible assumption | (unfold rng; omega) | (unfold rng; (repeat' split) <;> omega) | grind)); exact rσ
      · refine Fr.sI g ?_ (by decide); exact fσ
      · exact trivial
    · rename_i hc28
      skip
      unfold w_X16_row_31
      try simp only [forall_eq, rII, rIJ, rIP, rJJ, rJI, rJP, rPP, rPI, rPJ, g1, g2, g3, g4, g5, g6, g7, g8, Nat.reduceEqDiff, Nat.reduceAdd, false_and, and_false, true_and, and_true, reduceIte, nZ0, nZ1]
      refine ⟨ja, by first | exact hj.resolve_left (by assumption) | grind, hja, ?_⟩
      refine s2_X16_operatorOfOutput g rσ (by exact (io9.2 (by omega)).2) hja (by (try simp only [rII, rIJ, rIP, rJJ, rJI, rJP, rPP, rPI, rPJ, g1, g2, g3, g4, g5, g6, g7, g8, Nat.reduceEqDiff, Nat.reduceAdd, false_and, and_false, true_and, and_true, reduceIte, nZ0, nZ1]) <;> (first | omega | with_reducible assumption | (unfold rng; omega) | (unfold rng; (repeat' split) <;> omega) | grind)) (by exact (hjo (io9.2 (by omega)).2).1) (fun r33 p4 => ?_)
      try simp only [forall_eq, rII, rIJ, rIP, rJJ, rJI, rJP, rPP, rPI, rPJ, g1, g2, g3, g4, g5, g6, g7, g8, Nat.reduceEqDiff, Nat.reduceAdd, false_and, and_false, true_and, and_true, reduceIte, nZ0, nZ1]
      have hJ9 := (hjo (io9.2 (by omega)).2).1
      refine ⟨by (first | omega | with_reducible assumption | (unfold rng; omega) | (unfold rng; (repeat' split) <;> omega) | grind), ?_⟩
      have q5 := rσ.2.2.1 ja 6 (r33.toNat); simp only [rgJ] at q5
      refine ⟨by (first | omega | with_reducible assumption | (unfold rng; omega) | (unfold rng; (repeat' split) <;> omega) | grind), ?_⟩
      refine s_X16_within g rσ (fun r35 p6 => ?_)
      obtain ⟨p6, p6b⟩ := p6
      have p6w : r35 = 1 → (-1) ≤ v3 ∧ v3 ≤ ((gI σ (jx ja 6) r33.toNat) - 1) := fun e => win2 (by (first | omega | with_reducible assumption | (unfold rng; omega) | (unfold rng; (repeat' split) <;> omega) | grind)) (by (first | omega | with_reducible assumption | (unfold rng; omega) | (unfold rng; (repeat' split) <;> omega) | grind)) (by (first | omega | with_reducible assumption | (unfold rng; omega) | (unfold rng; (repeat' split) <;> omega) | grind)) (p6b e)
      try simp only [forall_eq, rII, rIJ, rIP, rJJ, rJI, rJP, rPP, rPI, rPJ, g1, g2, g3, g4, g5, g6, g7, g8, Nat.reduceEqDiff, Nat.reduceAdd, false_and, and_false, true_and, and_true, reduceIte, nZ0, nZ1]
      split
      · rename_i hc55
        skip
        unfold w_X16_row_62
        try simp only [forall_eq, rII, rIJ, rIP, rJJ, rJI, rJP, rPP, rPI, rPJ, g1, g2, g3, g4, g5, g6, g7, g8, Nat.reduceEqDiff, Nat.reduceAdd, false_and, and_false, true_and, and_true, reduceIte, nZ0, nZ1]
        unfold w_X16_row_63
        try simp only [forall_eq, rII, rIJ, rIP, rJJ, rJI, rJP, rPP, rPI, rPJ, g1, g2, g3, g4, g5, g6, g7, g8, Nat.reduceEqDiff, Nat.reduceAdd, false_and, and_false, true_and, and_true, reduceIte, nZ0, nZ1]
        try rw [if_neg (by decide)]
        unfold w_X16_row_73
        try simp only [forall_eq, rII, rIJ, rIP, rJJ, rJI, rJP, rPP, rPI, rPJ, g1, g2, g3, g4, g5, g6, g7, g8, Nat.reduceEqDiff, Nat.reduceAdd, false_and, and_false, true_and, and_true, reduceIte, nZ0, nZ1]
        refine hQ _ _ ?_ ?_ ?_
        · refine Rg.sI g ?_ (by simp only [rgS]; first | with_reducible exact nZ_rng _ | with_reducible exact nB_rng _ | with_reducible exact wr_rng _ | with_reducible exact i32any _ | (first | omega | with_reducible assumption | (unfold rng; omega) | (unfold rng; (repeat' split) <;> omega) | grind)); exact rσ
        · refine Fr.sI g ?_ (by decide); exact fσ
        · exact trivial
      · rename_i hc55
        skip
        unfold w_X16_row_58
        try simp only [forall_eq, rII, rIJ, rIP, rJJ, rJI, rJP, rPP, rPI, rPJ, g1, g2, g3, g4, g5, g6, g7, g8, Nat.reduceEqDiff, Nat.reduceAdd, false_and, and_false, true_and, and_true, reduceIte, nZ0, nZ1]
        unfold w_X16_row_63
        try simp only [forall_eq, rII, rIJ, rIP, rJJ, rJI, rJP, rPP, rPI, rPJ, g1, g2, g3, g4, g5, g6, g7, g8, Nat.reduceEqDiff, Nat.reduceAdd, false_and, and_false, true_and, and_true, reduceIte, nZ0, nZ1]
        try rw [if_pos (by decide)]
        unfold w_X16_row_75
        try simp only [forall_eq, rII, rIJ, rIP, rJJ, rJI, rJP, rPP, rPI, rPJ, g1, g2, g3, g4, g5, g6, g7, g8, Nat.reduceEqDiff, Nat.reduceAdd, false_and, and_false, true_and, and_true, reduceIte, nZ0, nZ1]
        refine s_X16_visibleAt g (by refine Rg.sI g ?_ (by simp only [rgS]; first | with_reducible exact nZ_rng _ | with_reducible exact nB_rng _ | with_reducible exact wr_rng _ | with_reducible exact i32any _ | (first | omega | with_reducible assumption | (unfold rng; omega) | (unfold rng; (repeat' split) <;> omega) | grind)); exact rσ) (HeE.fr (jx := jx) (K := []) (S := [0]) hhe (by repeat (first | exact Fr.rf | assumption | refine Fr.aJ g ?_ (by decide) | refine Fr.aI g ?_ (by decide) | refine Fr.sI g ?_ (by decide) | refine Fr.sJ g ?_ (by decide))) (by decide) (by decide)) (by (try simp only [rII, rIJ, rIP, rJJ, rJI, rJP, rPP, rPI, rPJ, g1, g2, g3, g4, g5, g6, g7, g8, Nat.reduceEqDiff, Nat.reduceAdd, false_and, and_false, true_and, and_true, reduceIte, nZ0, nZ1]) <;> (first | omega | with_reducible assumption | (unfold rng; omega) | (unfold rng; (repeat' split) <;> omega) | grind)) (by (try simp only [rII, rIJ, rIP, rJJ, rJI, rJP, rPP, rPI, rPJ, g1, g2, g3, g4, g5, g6, g7, g8, Nat.reduceEqDiff, Nat.reduceAdd, false_and, and_false, true_and, and_true, reduceIte, nZ0, nZ1]) <;> (first | omega | with_reducible assumption | (unfold rng; omega) | (unfold rng; (repeat' split) <;> omega) | grind)) (fun r39 p7 => ?_)
        try simp only [forall_eq, rII, rIJ, rIP, rJJ, rJI, rJP, rPP, rPI, rPJ, g1, g2, g3, g4, g5, g6, g7, g8, Nat.reduceEqDiff, Nat.reduceAdd, false_and, and_false, true_and, and_true, reduceIte, nZ0, nZ1]
        split
        · rename_i hc85
          skip
          unfold w_X16_row_98
          try simp only [forall_eq, rII, rIJ, rIP, rJJ, rJI, rJP, rPP, rPI, rPJ, g1, g2, g3, g4, g5, g6, g7, g8, Nat.reduceEqDiff, Nat.reduceAdd, false_and, and_false, true_and, and_true, reduceIte, nZ0, nZ1]
          refine ⟨by (first | omega | with_reducible assumption | (unfold rng; omega) | (unfold rng; (repeat' split) <;> omega) | grind), ?_⟩
          refine ⟨by (first | omega | with_reducible assumption | (unfold rng; omega) | (unfold rng; (repeat' split) <;> omega) | grind), ?_⟩
          refine ⟨by (first | omega | with_reducible assumption | (unfold rng; omega) | (unfold rng; (repeat' split) <;> omega) | grind), ?_⟩
          unfold w_X16_row_110
          try simp only [forall_eq, rII, rIJ, rIP, rJJ, rJI, rJP, rPP, rPI, rPJ, g1, g2, g3, g4, g5, g6, g7, g8, Nat.reduceEqDiff, Nat.reduceAdd, false_and, and_false, true_and, and_true, reduceIte, nZ0, nZ1]
          refine hQ _ _ ?_ ?_ ?_
          · refine Rg.sI g ?_ (by simp only [rgS]; first | with_reducible exact nZ_rng _ | with_reducible exact nB_rng _ | with_reducible exact wr_rng _ | with_reducible exact i32any _ | (first | omega | with_reducible assumption | (unfold rng; omega) | (unfold rng; (repeat' split) <;> omega) | grind)); exact rσ
          · refine Fr.sI g ?_ (by decide); exact fσ
          · exact trivial
        · rename_i hc85
          skip
          unfold w_X16_row_88
          try simp only [forall_eq, rII, rIJ, rIP, rJJ, rJI, rJP, rPP, rPI, rPJ, g1, g2, g3, g4, g5, g6, g7, g8, Nat.reduceEqDiff, Nat.reduceAdd, false_and, and_false, true_and, and_true, reduceIte, nZ0, nZ1]
          refine ⟨by (first | omega | with_reducible assumption | (unfold rng; omega) | (unfold rng; (repeat' split) <;> omega) | grind), ?_⟩
          unfold w_X16_row_110
          try simp only [forall_eq, rII, rIJ, rIP, rJJ, rJI, rJP, rPP, rPI, rPJ, g1, g2, g3, g4, g5, g6, g7, g8, Nat.reduceEqDiff, Nat.reduceAdd, false_and, and_false, true_and, and_true, reduceIte, nZ0, nZ1]
          refine hQ _ _ ?_ ?_ ?_
          · refine Rg.sI g ?_ (by simp only [rgS]; first | with_reducible exact nZ_rng _ | with_reducible exact nB_rng _ | with_reducible exact wr_rng _ | with_reducible exact i32any _ | (first | omega | with_reducible assumption | (unfold rng; omega) | (unfold rng; (repeat' split) <;> omega) | grind)); exact rσ
          · refine Fr.sI g ?_ (by decide); exact fσ
          · exact trivial
set_option maxHeartbeats 1000000 in
theorem s2_X16_give {ra : Nat → Nat} {jx : Nat → Nat → Nat} {rm : Nat} {ja : Nat} (g : Geo ra jx rm) {σ : Sg} {v1 : Int} {v2 : Int} {v3 : Int64} {v5 : Int64} {v7 : Int64} {v9 : Int64} (rσ : Rg ra jx rm σ) (hj : gP σ rm 17 = none ∨ gP σ rm 17 = some ja) (hja : ja = ra 15 ∨ ja = ra 16) (hjo : gP σ rm 17 = some ja → JobOK jx ja σ) (b1 : -2147483648 ≤ v1 ∧ v1 ≤ 2147483647) (b2 : -2147483648 ≤ v2 ∧ v2 ≤ 2147483647) {Q : Sg → Int → Prop} {X : Sg → String → Prop} (hQ : ∀ (σ' : Sg) (r : Int), Rg ra jx rm σ' → Fr ra jx rm [22, 23, 24] [0] σ σ' → (True) → Q σ' r) : wp_X16_give ra jx rm v1 v2 v3 v5 v7 v9 σ Q X := by
  obtain ⟨g1, g2, g3, g4, g5, g6, g7, g8⟩ := id g
  have fσ : Fr ra jx rm [22, 23, 24] [0] σ σ := Fr.rf
  unfold wp_X16_give
  unfold w_X16_give_0
  try simp only [forall_eq, rII, rIJ, rIP, rJJ, rJI, rJP, rPP, rPI, rPJ, g1, g2, g3, g4, g5, g6, g7, g8, Nat.reduceEqDiff, Nat.reduceAdd, false_and, and_false, true_and, and_true, reduceIte, nZ0, nZ1]
  refine s_X16_within g rσ (fun r28 p1 => ?_)
  obtain ⟨p1, p1b⟩ := p1
  have p1w : r28 = 1 → 0 ≤ v1 ∧ v1 ≤ 3 := fun e => win (by (first | omega | with_reducible assumption | (unfold rng; omega) | (unfold rng; (repeat' split) <;> omega) | grind)) (p1b e)
  try simp only [forall_eq, rII, rIJ, rIP, rJJ, rJI, rJP, rPP, rPI, rPJ, g1, g2, g3, g4, g5, g6, g7, g8, Nat.reduceEqDiff, Nat.reduceAdd, false_and, and_false, true_and, and_true, reduceIte, nZ0, nZ1]
  split
  · rename_i hc10
    skip
    unfold w_X16_give_17
    try simp only [forall_eq, rII, rIJ, rIP, rJJ, rJI, rJP, rPP, rPI, rPJ, g1, g2, g3, g4, g5, g6, g7, g8, Nat.reduceEqDiff, Nat.reduceAdd, false_and, and_false, true_and, and_true, reduceIte, nZ0, nZ1]
    refine s_X16_hasSource g rσ (by exact hj) hja (by (try simp only [rII, rIJ, rIP, rJJ, rJI, rJP, rPP, rPI, rPJ, g1, g2, g3, g4, g5, g6, g7, g8, Nat.reduceEqDiff, Nat.reduceAdd, false_and, and_false, true_and, and_true, reduceIte, nZ0, nZ1]) <;> (first | omega | with_reducible assumption | (unfold rng; omega) | (unfold rng; (repeat' split) <;> omega) | grind)) (fun r30 p2 => ?_)
    try simp only [forall_eq, rII, rIJ, rIP, rJJ, rJI, rJP, rPP, rPI, rPJ, g1, g2, g3, g4, g5, g6, g7, g8, Nat.reduceEqDiff, Nat.reduceAdd, false_and, and_false, true_and, and_true, reduceIte, nZ0, nZ1]
    split
    · rename_i hc22
      skip
      unfold w_X16_give_34
      try simp only [forall_eq, rII, rIJ, rIP, rJJ, rJI, rJP, rPP, rPI, rPJ, g1, g2, g3, g4, g5, g6, g7, g8, Nat.reduceEqDiff, Nat.reduceAdd, false_and, and_false, true_and, and_true, reduceIte, nZ0, nZ1]
      unfold w_X16_give_70
      try simp only [forall_eq, rII, rIJ, rIP, rJJ, rJI, rJP, rPP, rPI, rPJ, g1, g2, g3, g4, g5, g6, g7, g8, Nat.reduceEqDiff, Nat.reduceAdd, false_and, and_false, true_and, and_true, reduceIte, nZ0, nZ1]
      try rw [if_neg (by decide)]
      unfold w_X16_give_80
      try simp only [forall_eq, rII, rIJ, rIP, rJJ, rJI, rJP, rPP, rPI, rPJ, g1, g2, g3, g4, g5, g6, g7, g8, Nat.reduceEqDiff, Nat.reduceAdd, false_and, and_false, true_and, and_true, reduceIte, nZ0, nZ1]
      refine hQ _ _ ?_ ?_ ?_
      · refine Rg.sI g ?_ (by simp only [rgS]; first | with_reducible exact nZ_rng _ | with_reducible exact nB_rng _ | with_reducible exact wr_rng _ | with_reducible exact i32any _ | (first | omega | with_reducible assumption | (unfold rng; omega) | (unfold rng; (repeat' split) <;> omega) | grind)); exact rσ
      · refine Fr.sI g ?_ (by decide); exact fσ
      · exact trivial
    · rename_i hc22
      skip
      unfold w_X16_give_25
      try simp only [forall_eq, rII, rIJ, rIP, rJJ, rJI, rJP, rPP, rPI, rPJ, g1, g2, g3, g4, g5, g6, g7, g8, Nat.reduceEqDiff, Nat.reduceAdd, false_and, and_false, true_and, and_true, reduceIte, nZ0, nZ1]
      refine ⟨by (first | omega | with_reducible assumption | (unfold rng; omega) | (unfold rng; (repeat' split) <;> omega) | grind), ?_⟩
      have q3 := rσ.1 25 (v1.toNat); simp only [rgT] at q3
      split
      · rename_i hc31
        skip
        unfold w_X16_give_38
        try simp only [forall_eq, rII, rIJ, rIP, rJJ, rJI, rJP, rPP, rPI, rPJ, g1, g2, g3, g4, g5, g6, g7, g8, Nat.reduceEqDiff, Nat.reduceAdd, false_and, and_false, true_and, and_true, reduceIte, nZ0, nZ1]
        refine s_X16_within g rσ (fun r33 p4 => ?_)
        obtain ⟨p4, p4b⟩ := p4
        have p4w : r33 = 1 → 0 ≤ v2 ∧ v2 ≤ 1000000 := fun e => win (by (first | omega | with_reducible assumption | (unfold rng; omega) | (unfold rng; (repeat' split) <;> omega) | grind)) (p4b e)
        try simp only [forall_eq, rII, rIJ, rIP, rJJ, rJI, rJP, rPP, rPI, rPJ, g1, g2, g3, g4, g5, g6, g7, g8, Nat.reduceEqDiff, Nat.reduceAdd, false_and, and_false, true_and, and_true, reduceIte, nZ0, nZ1]
        split
        · rename_i hc47
          skip
          unfold w_X16_give_54
          try simp only [forall_eq, rII, rIJ, rIP, rJJ, rJI, rJP, rPP, rPI, rPJ, g1, g2, g3, g4, g5, g6, g7, g8, Nat.reduceEqDiff, Nat.reduceAdd, false_and, and_false, true_and, and_true, reduceIte, nZ0, nZ1]
          refine ⟨by (first | omega | with_reducible assumption | (unfold rng; omega) | (unfold rng; (repeat' split) <;> omega) | grind), ?_⟩
          have q5 := rσ.1 22 (v1.toNat); simp only [rgT] at q5
          split
          · rename_i hc62
            skip
            unfold w_X16_give_69
            try simp only [forall_eq, rII, rIJ, rIP, rJJ, rJI, rJP, rPP, rPI, rPJ, g1, g2, g3, g4, g5, g6, g7, g8, Nat.reduceEqDiff, Nat.reduceAdd, false_and, and_false, true_and, and_true, reduceIte, nZ0, nZ1]
            unfold w_X16_give_70
            try simp only [forall_eq, rII, rIJ, rIP, rJJ, rJI, rJP, rPP, rPI, rPJ, g1, g2, g3, g4, g5, g6, g7, g8, Nat.reduceEqDiff, Nat.reduceAdd, false_and, and_false, true_and, and_true, reduceIte, nZ0, nZ1]
            try rw [if_pos (by decide)]
            unfold w_X16_give_82
            try simp only [forall_eq, rII, rIJ, rIP, rJJ, rJI, rJP, rPP, rPI, rPJ, g1, g2, g3, g4, g5, g6, g7, g8, Nat.reduceEqDiff, Nat.reduceAdd, false_and, and_false, true_and, and_true, reduceIte, nZ0, nZ1]
            refine ⟨by (first | omega | with_reducible assumption | (unfold rng; omega) | (unfold rng; (repeat' split) <;> omega) | grind), ?_⟩
            refine ⟨by (first | omega | with_reducible assumption | (unfold rng; omega) | (unfold rng; (repeat' split) <;> omega) | grind), ?_⟩
            refine ⟨by (first | omega | with_reducible assumption | (unfold rng; omega) | (unfold rng; (repeat' split) <;> omega) | grind), ?_⟩
            refine ⟨by (first | omega | with_reducible assumption | (unfold rng; omega) | (unfold rng; (repeat' split) <;> omega) | grind), ?_⟩
            refine ⟨by (first | omega | with_reducible assumption | (unfold rng; omega) | (unfold rng; (repeat' split) <;> omega) | grind), ?_⟩
            refine ⟨by (first | omega | with_reducible assumption | (unfold rng; omega) | (unfold rng; (repeat' split) <;> omega) | grind), ?_⟩
            refine ⟨by (first | omega | with_reducible assumption | (unfold rng; omega) | (unfold rng; (repeat' split) <;> omega) | grind), ?_⟩
            refine ⟨by (first | omega | with_reducible assumption | (unfold rng; omega) | (unfold rng; (repeat' split) <;> omega) | grind), ?_⟩
            refine ⟨by (first | omega | with_reducible assumption | (unfold rng; omega) | (unfold rng; (repeat' split) <;> omega) | grind), ?_⟩
            refine ⟨by (first | omega | with_reducible assumption | (unfold rng; omega) | (unfold rng; (repeat' split) <;> omega) | grind), ?_⟩
            refine ⟨by (first | omega | with_reducible assumption | (unfold rng; omega) | (unfold rng; (repeat' split) <;> omega) | grind), ?_⟩
            refine ⟨by (first | omega | with_reducible assumption | (unfold rng; omega) | (unfold rng; (repeat' split) <;> omega) | grind), ?_⟩
            refine ⟨by (first | omega | with_reducible assumption | (unfold rng; omega) | (unfold rng; (repeat' split) <;> omega) | grind), ?_⟩
            refine ⟨by (first | omega | with_reducible assumption | (unfold rng; omega) | (unfold rng; (repeat' split) <;> omega) | grind), ?_⟩
            refine ⟨by (first | omega | with_reducible assumption | (unfold rng; omega) | (unfold rng; (repeat' split) <;> omega) | grind), ?_⟩
            refine ⟨by (first | omega | with_reducible assumption | (unfold rng; omega) | (unfold rng; (repeat' split) <;> omega) | grind), ?_⟩
            refine ⟨by (first | omega | with_reducible assumption | (unfold rng; omega) | (unfold rng; (repeat' split) <;> omega) | grind), ?_⟩
            refine ⟨by (first | omega | with_reducible assumption | (unfold rng; omega) | (unfold rng; (repeat' split) <;> omega) | grind), ?_⟩
            refine ⟨by (first | omega | with_reducible assumption | (unfold rng; omega) | (unfold rng; (repeat' split) <;> omega) | grind), ?_⟩
            refine ⟨by (first | omega | with_reducible assumption | (unfold rng; omega) | (unfold rng; (repeat' split) <;> omega) | grind), ?_⟩
            refine hQ _ _ ?_ ?_ ?_
            · refine Rg.aI g ?_ (by simp only [rgT]; first | with_reducible exact nZ_rng _ | with_reducible exact nB_rng _ | with_reducible exact wr_rng _ | with_reducible exact i32any _ | (first | omega | with_reducible assumption | (unfold rng; omega) | (unfold rng; (repeat' split) <;> omega) | grind)); refine Rg.aJ g ?_ (by simp only [rlT]; first | with_reducible assumption | omega | exact Int64.toInt_le _ | (rw [Int64.toInt_ofInt_of_le (by omega) (by omega)]; omega) | grind); refine Rg.aJ g ?_ (by simp only [rlT]; first | with_reducible assumption | omega | exact Int64.toInt_le _ | (rw [Int64.toInt_ofInt_of_le (by omega) (by omega)]; omega) | grind); refine Rg.aJ g ?_ (by simp only [rlT]; first | with_reducible assumption | omega | exact Int64.toInt_le _ | (rw [Int64.toInt_ofInt_of_le (by omega) (by omega)]; omega) | grind); refine Rg.aJ g ?_ (by simp only [rlT]; first | with_reducible assumption | omega | exact Int64.toInt_le _ | (rw [Int64.toInt_ofInt_of_le (by omega) (by omega)]; omega) | grind); refine Rg.aJ g ?_ (by simp only [rlT]; first | with_reducible assumption | omega | exact Int64.toInt_le _ | (rw [Int64.toInt_ofInt_of_le (by omega) (by omega)]; omega) | grind); refine Rg.sI g ?_ (by simp only [rgS]; first | with_reducible exact nZ_rng _ | with_reducible exact nB_rng _ | with_reducible exact wr_rng _ | with_reducible exact i32any _ | (first | omega | with_reducible assumption | (unfold rng; omega) | (unfold rng; (repeat' split) <;> omega) | grind)); exact rσ
            · refine Fr.aI g ?_ (by decide); refine Fr.aJ g ?_ (by decide); refine Fr.aJ g ?_ (by decide); refine Fr.aJ g ?_ (by decide); refine Fr.aJ g ?_ (by decide); refine Fr.aJ g ?_ (by decide); refine Fr.sI g ?_ (by decide); exact fσ
            · exact trivial
          · rename_i hc62
            skip
            unfold w_X16_give_65
            try simp only [forall_eq, rII, rIJ, rIP, rJJ, rJI, rJP, rPP, rPI, rPJ, g1, g2, g3, g4, g5, g6, g7, g8, Nat.reduceEqDiff, Nat.reduceAdd, false_and, and_false, true_and, and_true, reduceIte, nZ0, nZ1]
            unfold w_X16_give_70
            try simp only [forall_eq, rII, rIJ, rIP, rJJ, rJI, rJP, rPP, rPI, rPJ, g1, g2, g3, g4, g5, g6, g7, g8, Nat.reduceEqDiff, Nat.reduceAdd, false_and, and_false, true_and, and_true, reduceIte, nZ0, nZ1]
            try rw [if_neg (by decide)]
            unfold w_X16_give_80
            try simp only [forall_eq, rII, rIJ, rIP, rJJ, rJI, rJP, rPP, rPI, rPJ, g1, g2, g3, g4, g5, g6, g7, g8, Nat.reduceEqDiff, Nat.reduceAdd, false_and, and_false, true_and, and_true, reduceIte, nZ0, nZ1]
            refine hQ _ _ ?_ ?_ ?_
            · refine Rg.sI g ?_ (by simp only [rgS]; first | with_reducible exact nZ_rng _ | with_reducible exact nB_rng _ | with_reducible exact wr_rng _ | with_reducible exact i32any _ | (first | omega | with_reducible assumption | (unfold rng; omega) | (unfold rng; (repeat' split) <;> omega) | grind)); exact rσ
            · refine Fr.sI g ?_ (by decide); exact fσ
            · exact trivial
        · rename_i hc47
          skip
          unfold w_X16_give_50
          try simp only [forall_eq, rII, rIJ, rIP, rJJ, rJI, rJP, rPP, rPI, rPJ, g1, g2, g3, g4, g5, g6, g7, g8, Nat.reduceEqDiff, Nat.reduceAdd, false_and, and_false, true_and, and_true, reduceIte, nZ0, nZ1]
          unfold w_X16_give_70
          try simp only [forall_eq, rII, rIJ, rIP, rJJ, rJI, rJP, rPP, rPI, rPJ, g1, g2, g3, g4, g5, g6, g7, g8, Nat.reduceEqDiff, Nat.reduceAdd, false_and, and_false, true_and, and_true, reduceIte, nZ0, nZ1]
          try rw [if_neg (by decide)]
          unfold w_X16_give_80
          try simp only [forall_eq, rII, rIJ, rIP, rJJ, rJI, rJP, rPP, rPI, rPJ, g1, g2, g3, g4, g5, g6, g7, g8, Nat.reduceEqDiff, Nat.reduceAdd, false_and, and_false, true_and, and_true, reduceIte, nZ0, nZ1]
          refine hQ _ _ ?_ ?_ ?_
          · refine Rg.sI g ?_ (by simp only [rgS]; first | with_reducible exact nZ_rng _ | with_reducible exact nB_rng _ | with_reducible exact wr_rng _ | with_reducible exact i32any _ | (first | omega | with_reducible assumption | (unfold rng; omega) | (unfold rng; (repeat' split) <;> omega) | grind)); exact rσ
          · refine Fr.sI g ?_ (by decide); exact fσ
          · exact trivial
      · rename_i hc31
        skip
        unfold w_X16_give_34
        try simp only [forall_eq, rII, rIJ, rIP, rJJ, rJI, rJP, rPP, rPI, rPJ, g1, g2, g3, g4, g5, g6, g7, g8, Nat.reduceEqDiff, Nat.reduceAdd, false_and, and_false, true_and, and_true, reduceIte, nZ0, nZ1]
        unfold w_X16_give_70
        try simp only [forall_eq, rII, rIJ, rIP, rJJ, rJI, rJP, rPP, rPI, rPJ, g1, g2, g3, g4, g5, g6, g7, g8, Nat.reduceEqDiff, Nat.reduceAdd, false_and, and_false, true_and, and_true, reduceIte, nZ0, nZ1]
        try rw [if_neg (by decide)]
        unfold w_X16_give_80
        try simp only [forall_eq, rII, rIJ, rIP, rJJ, rJI, rJP, rPP, rPI, rPJ, g1, g2, g3, g4, g5, g6, g7, g8, Nat.reduceEqDiff, Nat.reduceAdd, false_and, and_false, true_and, and_true, reduceIte, nZ0, nZ1]
        refine hQ _ _ ?_ ?_ ?_
        · refine Rg.sI g ?_ (by simp only [rgS]; first | with_reducible exact nZ_rng _ | with_reducible exact nB_rng _ | with_reducible exact wr_rng _ | with_reducible exact i32any _ | (first | omega | with_reducible assumption | (unfold rng; omega) | (unfold rng; (repeat' split) <;> omega) | grind)); exact rσ
        · refine Fr.sI g ?_ (by decide); exact fσ
        · exact trivial
  · rename_i hc10
    skip
    unfold w_X16_give_13
    try simp only [forall_eq, rII, rIJ, rIP, rJJ, rJI, rJP, rPP, rPI, rPJ, g1, g2, g3, g4, g5, g6, g7, g8, Nat.reduceEqDiff, Nat.reduceAdd, false_and, and_false, true_and, and_true, reduceIte, nZ0, nZ1]
    unfold w_X16_give_70
    try simp only [forall_eq, rII, rIJ, rIP, rJJ, rJI, rJP, rPP, rPI, rPJ, g1, g2, g3, g4, g5, g6, g7, g8, Nat.reduceEqDiff, Nat.reduceAdd, false_and, and_false, true_and, and_true, reduceIte, nZ0, nZ1]
    try rw [if_neg (by decide)]
    unfold w_X16_give_80
    try simp only [forall_eq, rII, rIJ, rIP, rJJ, rJI, rJP, rPP, rPI, rPJ, g1, g2, g3, g4, g5, g6, g7, g8, Nat.reduceEqDiff, Nat.reduceAdd, false_and, and_false, true_and, and_true, reduceIte, nZ0, nZ1]
    refine hQ _ _ ?_ ?_ ?_
    · refine Rg.sI g ?_ (by simp only [rgS]; first | with_reducible exact nZ_rng _ | with_reducible exact nB_rng _ | with_reducible exact wr_rng _ | with_reducible exact i32any _ | (first | omega | with_reducible assumption | (unfold rng; omega) | (unfold rng; (repeat' split) <;> omega) | grind)); exact rσ
    · refine Fr.sI g ?_ (by decide); exact fσ
    · exact trivial
set_option maxHeartbeats 2000000 in
theorem s2_X16_close {ra : Nat → Nat} {jx : Nat → Nat → Nat} {rm : Nat} {ja : Nat} (g : Geo ra jx rm) {σ : Sg} {v1 : Int} (rσ : Rg ra jx rm σ) (hj : gP σ rm 17 = none ∨ gP σ rm 17 = some ja) (hja : ja = ra 15 ∨ ja = ra 16) (hjo : gP σ rm 17 = some ja → JobOK jx ja σ) (b1 : -2147483648 ≤ v1 ∧ v1 ≤ 2147483647) {Q : Sg → Int → Prop} {X : Sg → String → Prop} (hQ : ∀ (σ' : Sg) (r : Int), Rg ra jx rm σ' → Fr ra jx rm [25] [0] σ σ' → (True) → Q σ' r) : wp_X16_close ra jx rm v1 σ Q X := by
  obtain ⟨g1, g2, g3, g4, g5, g6, g7, g8⟩ := id g
  have fσ : Fr ra jx rm [25] [0] σ σ := Fr.rf
  unfold wp_X16_close
  unfold w_X16_close_0
  try simp only [forall_eq, rII, rIJ, rIP, rJJ, rJI, rJP, rPP, rPI, rPJ, g1, g2, g3, g4, g5, g6, g7, g8, Nat.reduceEqDiff, Nat.reduceAdd, false_and, and_false, true_and, and_true, reduceIte, nZ0, nZ1]
  refine s_X16_within g rσ (fun r14 p1 => ?_)
  obtain ⟨p1, p1b⟩ := p1
  have p1w : r14 = 1 → 0 ≤ v1 ∧ v1 ≤ 3 := fun e => win (by (first | omega | with_reducible assumption | (unfold rng; omega) | (unfold rng; (repeat' split) <;> omega) | grind)) (p1b e)
  try simp only [forall_eq, rII, rIJ, rIP, rJJ, rJI, rJP, rPP, rPI, rPJ, g1, g2, g3, g4, g5, g6, g7, g8, Nat.reduceEqDiff, Nat.reduceAdd, false_and, and_false, true_and, and_true, reduceIte, nZ0, nZ1]
  split
  · rename_i hc10
    skip
    unfold w_X16_close_17
    try simp only [forall_eq, rII, rIJ, rIP, rJJ, rJI, rJP, rPP, rPI, rPJ, g1, g2, g3, g4, g5, g6, g7, g8, Nat.reduceEqDiff, Nat.reduceAdd, false_and, and_false, true_and, and_true, reduceIte, nZ0, nZ1]
    refine s_X16_hasSource g rσ (by exact hj) hja (by (try simp only [rII, rIJ, rIP, rJJ, rJI, rJP, rPP, rPI, rPJ, g1, g2, g3, g4, g5, g6, g7, g8, Nat.reduceEqDiff, Nat.reduceAdd, false_and, and_false, true_and, and_true, reduceIte, nZ0, nZ1]) <;> (first | omega | with_reducible assumption | (unfold rng; omega) | (unfold rng; (repeat' split) <;> omega) | grind)) (fun r16 p2 => ?_)
    try simp only [forall_eq, rII, rIJ, rIP, rJJ, rJI, rJP, rPP, rPI, rPJ, g1, g2, g3, g4, g5, g6, g7, g8, Nat.reduceEqDiff, Nat.reduceAdd, false_and, and_false, true_and, and_true, reduceIte, nZ0, nZ1]
    split
    · rename_i hc22
      skip
      unfold w_X16_close_29
      try simp only [forall_eq, rII, rIJ, rIP, rJJ, rJI, rJP, rPP, rPI, rPJ, g1, g2, g3, g4, g5, g6, g7, g8, Nat.reduceEqDiff, Nat.reduceAdd, false_and, and_false, true_and, and_true, reduceIte, nZ0, nZ1]
      unfold w_X16_close_30
      try simp only [forall_eq, rII, rIJ, rIP, rJJ, rJI, rJP, rPP, rPI, rPJ, g1, g2, g3, g4, g5, g6, g7, g8, Nat.reduceEqDiff, Nat.reduceAdd, false_and, and_false, true_and, and_true, reduceIte, nZ0, nZ1]
      try rw [if_pos (by decide)]
      unfold w_X16_close_42
      try simp only [forall_eq, rII, rIJ, rIP, rJJ, rJI, rJP, rPP, rPI, rPJ, g1, g2, g3, g4, g5, g6, g7, g8, Nat.reduceEqDiff, Nat.reduceAdd, false_and, and_false, true_and, and_true, reduceIte, nZ0, nZ1]
      refine ⟨by (first | omega | with_reducible assumption | (unfold rng; omega) | (unfold rng; (repeat' split) <;> omega) | grind), ?_⟩
      refine ⟨by (first | omega | with_reducible assumption | (unfold rng; omega) | (unfold rng; (repeat' split) <;> omega) | grind), ?_⟩
      have q3 := rσ.1 25 (v1.toNat); simp only [rgT] at q3
      split
      · rename_i hc57
        skip
        unfold w_X16_close_64
        try simp only [forall_eq, rII, rIJ, rIP, rJJ, rJI, rJP, rPP, rPI, rPJ, g1, g2, g3, g4, g5, g6, g7, g8, Nat.reduceEqDiff, Nat.reduceAdd, false_and, and_false, true_and, and_true, reduceIte, nZ0, nZ1]
        unfold w_X16_close_65
        try simp only [forall_eq, rII, rIJ, rIP, rJJ, rJI, rJP, rPP, rPI, rPJ, g1, g2, g3, g4, g5, g6, g7, g8, Nat.reduceEqDiff, Nat.reduceAdd, false_and, and_false, true_and, and_true, reduceIte, nZ0, nZ1]
        refine ⟨by (first | omega | with_reducible assumption | (unfold rng; omega) | (unfold rng; (repeat' split) <;> omega) | grind), ?_⟩
        refine hQ _ _ ?_ ?_ ?_
        · refine Rg.aI g ?_ (by simp only [rgT]; first | with_reducible exact nZ_rng _ | with_reducible exact nB_rng _ | with_reducible exact wr_rng _ | with_reducible exact i32any _ | (first | omega | with_reducible assumption | (unfold rng; omega) | (unfold rng; (repeat' split) <;> omega) | grind)); refine Rg.sI g ?_ (by simp only [rgS]; first | with_reducible exact nZ_rng _ | with_reducible exact nB_rng _ | with_reducible exact wr_rng _ | with_reducible exact i32any _ | (first | omega | with_reducible assumption | (unfold rng; omega) | (unfold rng; (repeat' split) <;> omega) | grind)); exact rσ
        · refine Fr.aI g ?_ (by decide); refine Fr.sI g ?_ (by decide); exact fσ
        · exact trivial
      · rename_i hc57
        skip
        unfold w_X16_close_60
        try simp only [forall_eq, rII, rIJ, rIP, rJJ, rJI, rJP, rPP, rPI, rPJ, g1, g2, g3, g4, g5, g6, g7, g8, Nat.reduceEqDiff, Nat.reduceAdd, false_and, and_false, true_and, and_true, reduceIte, nZ0, nZ1]
        unfold w_X16_close_65
        try simp only [forall_eq, rII, rIJ, rIP, rJJ, rJI, rJP, rPP, rPI, rPJ, g1, g2, g3, g4, g5, g6, g7, g8, Nat.reduceEqDiff, Nat.reduceAdd, false_and, and_false, true_and, and_true, reduceIte, nZ0, nZ1]
        refine ⟨by (first | omega | with_reducible assumption | (unfold rng; omega) | (unfold rng; (repeat' split) <;> omega) | grind), ?_⟩
        refine hQ _ _ ?_ ?_ ?_
        · refine Rg.aI g ?_ (by simp only [rgT]; first | with_reducible exact nZ_rng _ | with_reducible exact nB_rng _ | with_reducible exact wr_rng _ | with_reducible exact i32any _ | (first | omega | with_reducible assumption | (unfold rng; omega) | (unfold rng; (repeat' split) <;> omega) | grind)); refine Rg.sI g ?_ (by simp only [rgS]; first | with_reducible exact nZ_rng _ | with_reducible exact nB_rng _ | with_reducible exact wr_rng _ | with_reducible exact i32any _ | (first | omega | with_reducible assumption | (unfold rng; omega) | (unfold rng; (repeat' split) <;> omega) | grind)); exact rσ
        · refine Fr.aI g ?_ (by decide); refine Fr.sI g ?_ (by decide); exact fσ
        · exact trivial
    · rename_i hc22
      skip
      unfold w_X16_close_25
      try simp only [forall_eq, rII, rIJ, rIP, rJJ, rJI, rJP, rPP, rPI, rPJ, g1, g2, g3, g4, g5, g6, g7, g8, Nat.reduceEqDiff, Nat.reduceAdd, false_and, and_false, true_and, and_true, reduceIte, nZ0, nZ1]
      unfold w_X16_close_30
      try simp only [forall_eq, rII, rIJ, rIP, rJJ, rJI, rJP, rPP, rPI, rPJ, g1, g2, g3, g4, g5, g6, g7, g8, Nat.reduceEqDiff, Nat.reduceAdd, false_and, and_false, true_and, and_true, reduceIte, nZ0, nZ1]
      try rw [if_neg (by decide)]
      unfold w_X16_close_40
      try simp only [forall_eq, rII, rIJ, rIP, rJJ, rJI, rJP, rPP, rPI, rPJ, g1, g2, g3, g4, g5, g6, g7, g8, Nat.reduceEqDiff, Nat.reduceAdd, false_and, and_false, true_and, and_true, reduceIte, nZ0, nZ1]
      refine hQ _ _ ?_ ?_ ?_
      · refine Rg.sI g ?_ (by simp only [rgS]; first | with_reducible exact nZ_rng _ | with_reducible exact nB_rng _ | with_reducible exact wr_rng _ | with_reducible exact i32any _ | (first | omega | with_reducible assumption | (unfold rng; omega) | (unfold rng; (repeat' split) <;> omega) | grind)); exact rσ
      · refine Fr.sI g ?_ (by decide); exact fσ
      · exact trivial
  · rename_i hc10
    skip
    unfold w_X16_close_13
    try simp only [forall_eq, rII, rIJ, rIP, rJJ, rJI, rJP, rPP, rPI, rPJ, g1, g2, g3, g4, g5, g6, g7, g8, Nat.reduceEqDiff, Nat.reduceAdd, false_and, and_false, true_and, and_true, reduceIte, nZ0, nZ1]
    unfold w_X16_close_30
    try simp only [forall_eq, rII, rIJ, rIP, rJJ, rJI, rJP, rPP, rPI, rPJ, g1, g2, g3, g4, g5, g6, g7, g8, Nat.reduceEqDiff, Nat.reduceAdd, false_and, and_false, true_and, and_true, reduceIte, nZ0, nZ1]
    try rw [if_neg (by decide)]
    unfold w_X16_close_40
    try simp only [forall_eq, rII, rIJ, rIP, rJJ, rJI, rJP, rPP, rPI, rPJ, g1, g2, g3, g4, g5, g6, g7, g8, Nat.reduceEqDiff, Nat.reduceAdd, false_and, and_false, true_and, and_true, reduceIte, nZ0, nZ1]
    refine hQ _ _ ?_ ?_ ?_
    · refine Rg.sI g ?_ (by simp only [rgS]; first | with_reducible exact nZ_rng _ | with_reducible exact nB_rng _ | with_reducible exact wr_rng _ | with_reducible exact i32any _ | (first | omega | with_reducible assumption | (unfold rng; omega) | (unfold rng; (repeat' split) <;> omega) | grind)); exact rσ
    · refine Fr.sI g ?_ (by decide); exact fσ
    · exact trivial
set_option maxHeartbeats 2000000 in
theorem s2_X16_task {ra : Nat → Nat} {jx : Nat → Nat → Nat} {rm : Nat} {ja : Nat} (g : Geo ra jx rm) {σ : Sg} {v1 : Int} {v2 : Int} (rσ : Rg ra jx rm σ) (hj : 0 < gI σ rm 36 → gP σ rm 17 = some ja) (hja : ja = ra 15 ∨ ja = ra 16) (b1 : -2147483648 ≤ v1 ∧ v1 ≤ 2147483647) (b2 : -2147483648 ≤ v2 ∧ v2 ≤ 2147483647) (hco0 : 0 < gI σ rm 36 → cO jx ja σ (gI σ ja 0) = gI σ ja 1 ∧ gI σ ja 1 ≤ 4 ∧ 1 ≤ gI σ ja 0 ∧ gI σ ja 0 ≤ 16) (hto : ∀ t, 0 ≤ t → t < gI σ rm 36 → gI σ (ra 38) t.toNat < gI σ ja 0) {Q : Sg → Int64 → Prop} {X : Sg → String → Prop} (hQ : ∀ (σ' : Sg) (r : Int64), Rg ra jx rm σ' → Fr ra jx rm [] [0] σ σ' → (True) → Q σ' r) : wp_X16_task ra jx rm v1 v2 σ Q X := by
  obtain ⟨g1, g2, g3, g4, g5, g6, g7, g8⟩ := id g
  have fσ : Fr ra jx rm [] [0] σ σ := Fr.rf
  unfold wp_X16_task
  unfold w_X16_task_0
  try simp only [forall_eq, rII, rIJ, rIP, rJJ, rJI, rJP, rPP, rPI, rPJ, g1, g2, g3, g4, g5, g6, g7, g8, Nat.reduceEqDiff, Nat.reduceAdd, false_and, and_false, true_and, and_true, reduceIte, nZ0, nZ1]
  have q1 := rσ.2.1 36; simp only [rgS] at q1
  refine ⟨by (first | omega | with_reducible assumption | (unfold rng; omega) | (unfold rng; (repeat' split) <;> omega) | grind), ?_⟩
  refine s_X16_within g rσ (fun r18 p2 => ?_)
  obtain ⟨p2, p2b⟩ := p2
  have p2w : r18 = 1 → 0 ≤ v1 ∧ v1 ≤ ((gI σ rm 36) - 1) := fun e => win2 (by (first | omega | with_reducible assumption | (unfold rng; omega) | (unfold rng; (repeat' split) <;> omega) | grind)) (by (first | omega | with_reducible assumption | (unfold rng; omega) | (unfold rng; (repeat' split) <;> omega) | grind)) (by (first | omega | with_reducible assumption | (unfold rng; omega) | (unfold rng; (repeat' split) <;> omega) | grind)) (p2b e)
  try simp only [forall_eq, rII, rIJ, rIP, rJJ, rJI, rJP, rPP, rPI, rPJ, g1, g2, g3, g4, g5, g6, g7, g8, Nat.reduceEqDiff, Nat.reduceAdd, false_and, and_false, true_and, and_true, reduceIte, nZ0, nZ1]
  split
  · rename_i hc14
    skip
    unfold w_X16_task_21
    try simp only [forall_eq, rII, rIJ, rIP, rJJ, rJI, rJP, rPP, rPI, rPJ, g1, g2, g3, g4, g5, g6, g7, g8, Nat.reduceEqDiff, Nat.reduceAdd, false_and, and_false, true_and, and_true, reduceIte, nZ0, nZ1]
    have q3 := rσ.2.1 32; simp only [rgS] at q3
    split
    · rename_i hc25
      skip
      unfold w_X16_task_35
      try simp only [forall_eq, rII, rIJ, rIP, rJJ, rJI, rJP, rPP, rPI, rPJ, g1, g2, g3, g4, g5, g6, g7, g8, Nat.reduceEqDiff, Nat.reduceAdd, false_and, and_false, true_and, and_true, reduceIte, nZ0, nZ1]
      unfold w_X16_task_56
      try simp only [forall_eq, rII, rIJ, rIP, rJJ, rJI, rJP, rPP, rPI, rPJ, g1, g2, g3, g4, g5, g6, g7, g8, Nat.reduceEqDiff, Nat.reduceAdd, false_and, and_false, true_and, and_true, reduceIte, nZ0, nZ1]
      try rw [if_neg (by decide)]
      unfold w_X16_task_66
      try simp only [forall_eq, rII, rIJ, rIP, rJJ, rJI, rJP, rPP, rPI, rPJ, g1, g2, g3, g4, g5, g6, g7, g8, Nat.reduceEqDiff, Nat.reduceAdd, false_and, and_false, true_and, and_true, reduceIte, nZ0, nZ1]
      refine hQ _ _ ?_ ?_ ?_
      · refine Rg.sI g ?_ (by simp only [rgS]; first | with_reducible exact nZ_rng _ | with_reducible exact nB_rng _ | with_reducible exact wr_rng _ | with_reducible exact i32any _ | (first | omega | with_reducible assumption | (unfold rng; omega) | (unfold rng; (repeat' split) <;> omega) | grind)); exact rσ
      · refine Fr.sI g ?_ (by decide); exact fσ
      · exact trivial
    · rename_i hc25
      skip
      unfold w_X16_task_28
      try simp only [forall_eq, rII, rIJ, rIP, rJJ, rJI, rJP, rPP, rPI, rPJ, g1, g2, g3, g4, g5, g6, g7, g8, Nat.reduceEqDiff, Nat.reduceAdd, false_and, and_false, true_and, and_true, reduceIte, nZ0, nZ1]
      have q4 := rσ.2.1 31; simp only [rgS] at q4
      split
      · rename_i hc32
        skip
        unfold w_X16_task_39
        try simp only [forall_eq, rII, rIJ, rIP, rJJ, rJI, rJP, rPP, rPI, rPJ, g1, g2, g3, g4, g5, g6, g7, g8, Nat.reduceEqDiff, Nat.reduceAdd, false_and, and_false, true_and, and_true, reduceIte, nZ0, nZ1]
        refine s_X16_within g rσ (fun r21 p5 => ?_)
        obtain ⟨p5, p5b⟩ := p5
        have p5w : r21 = 1 → 0 ≤ v2 ∧ v2 ≤ 8 := fun e => win (by (first | omega | with_reducible assumption | (unfold rng; omega) | (unfold rng; (repeat' split) <;> omega) | grind)) (p5b e)
        try simp only [forall_eq, rII, rIJ, rIP, rJJ, rJI, rJP, rPP, rPI, rPJ, g1, g2, g3, g4, g5, g6, g7, g8, Nat.reduceEqDiff, Nat.reduceAdd, false_and, and_false, true_and, and_true, reduceIte, nZ0, nZ1]
        split
        · rename_i hc48
          skip
          unfold w_X16_task_55
          try simp only [forall_eq, rII, rIJ, rIP, rJJ, rJI, rJP, rPP, rPI, rPJ, g1, g2, g3, g4, g5, g6, g7, g8, Nat.reduceEqDiff, Nat.reduceAdd, false_and, and_false, true_and, and_true, reduceIte, nZ0, nZ1]
          unfold w_X16_task_56
          try simp only [forall_eq, rII, rIJ, rIP, rJJ, rJI, rJP, rPP, rPI, rPJ, g1, g2, g3, g4, g5, g6, g7, g8, Nat.reduceEqDiff, Nat.reduceAdd, false_and, and_false, true_and, and_true, reduceIte, nZ0, nZ1]
          try rw [if_pos (by decide)]
          unfold w_X16_task_68
          try simp only [forall_eq, rII, rIJ, rIP, rJJ, rJI, rJP, rPP, rPI, rPJ, g1, g2, g3, g4, g5, g6, g7, g8, Nat.reduceEqDiff, Nat.reduceAdd, false_and, and_false, true_and, and_true, reduceIte, nZ0, nZ1]
          refine ⟨by (first | omega | with_reducible assumption | (unfold rng; omega) | (unfold rng; (repeat' split) <;> omega) | grind), ?_⟩
          refine ⟨ja, by exact hj (by omega), hja, ?_⟩
          have q6 := rσ.1 38 (v1.toNat); simp only [rgT] at q6
          refine ⟨by (first | omega | with_reducible assumption | (unfold rng; omega) | (unfold rng; (repeat' split) <;> omega) | grind), ?_⟩
          by_cases hc87_0 : v2 = 0
          · rw [if_pos hc87_0]
            unfold w_X16_task_132
            try simp only [forall_eq, rII, rIJ, rIP, rJJ, rJI, rJP, rPP, rPI, rPJ, g1, g2, g3, g4, g5, g6, g7, g8, Nat.reduceEqDiff, Nat.reduceAdd, false_and, and_false, true_and, and_true, reduceIte, nZ0, nZ1]
            refine hQ _ _ ?_ ?_ ?_
            · refine Rg.sI g ?_ (by simp only [rgS]; first | with_reducible exact nZ_rng _ | with_reducible exact nB_rng _ | with_reducible exact wr_rng _ | with_reducible exact i32any _ | (first | omega | with_reducible assumption | (unfold rng; omega) | (unfold rng; (repeat' split) <;> omega) | grind)); exact rσ
            · refine Fr.sI g ?_ (by decide); exact fσ
            · exact trivial
          · rw [if_neg hc87_0]
            by_cases hc87_1 : v2 = 1
            · rw [if_pos hc87_1]
              unfold w_X16_task_135
              try simp only [forall_eq, rII, rIJ, rIP, rJJ, rJI, rJP, rPP, rPI, rPJ, g1, g2, g3, g4, g5, g6, g7, g8, Nat.reduceEqDiff, Nat.reduceAdd, false_and, and_false, true_and, and_true, reduceIte, nZ0, nZ1]
              refine ⟨by (first | omega | with_reducible assumption | (unfold rng; omega) | (unfold rng; (repeat' split) <;> omega) | grind), ?_⟩
              refine hQ _ _ ?_ ?_ ?_
              · refine Rg.sI g ?_ (by simp only [rgS]; first | with_reducible exact nZ_rng _ | with_reducible exact nB_rng _ | with_reducible exact wr_rng _ | with_reducible exact i32any _ | (first | omega | with_reducible assumption | (unfold rng; omega) | (unfold rng; (repeat' split) <;> omega) | grind)); exact rσ
              · refine Fr.sI g ?_ (by decide); exact fσ
              · exact trivial
            · rw [if_neg hc87_1]
              by_cases hc87_2 : v2 = 2
              · rw [if_pos hc87_2]
                unfold w_X16_task_143
                try simp only [forall_eq, rII, rIJ, rIP, rJJ, rJI, rJP, rPP, rPI, rPJ, g1, g2, g3, g4, g5, g6, g7, g8, Nat.reduceEqDiff, Nat.reduceAdd, false_and, and_false, true_and, and_true, reduceIte, nZ0, nZ1]
                refine ⟨by (first | omega | with_reducible assumption | (unfold rng; omega) | (unfold rng; (repeat' split) <;> omega) | grind), ?_⟩
                refine hQ _ _ ?_ ?_ ?_
                · refine Rg.sI g ?_ (by simp only [rgS]; first | with_reducible exact nZ_rng _ | with_reducible exact nB_rng _ | with_reducible exact wr_rng _ | with_reducible exact i32any _ | (first | omega | with_reducible assumption | (unfold rng; omega) | (unfold rng; (repeat' split) <;> omega) | grind)); exact rσ
                · refine Fr.sI g ?_ (by decide); exact fσ
                · exact trivial
              · rw [if_neg hc87_2]
                by_cases hc87_3 : v2 = 3
                · rw [if_pos hc87_3]
                  unfold w_X16_task_150
                  try simp only [forall_eq, rII, rIJ, rIP, rJJ, rJI, rJP, rPP, rPI, rPJ, g1, g2, g3, g4, g5, g6, g7, g8, Nat.reduceEqDiff, Nat.reduceAdd, false_and, and_false, true_and, and_true, reduceIte, nZ0, nZ1]
                  refine ⟨by (first | omega | with_reducible assumption | (unfold rng; omega) | (unfold rng; (repeat' split) <;> omega) | grind), ?_⟩
                  refine hQ _ _ ?_ ?_ ?_
                  · refine Rg.sI g ?_ (by simp only [rgS]; first | with_reducible exact nZ_rng _ | with_reducible exact nB_rng _ | with_reducible exact wr_rng _ | with_reducible exact i32any _ | (first | omega | with_reducible assumption | (unfold rng; omega) | (unfold rng; (repeat' split) <;> omega) | grind)); exact rσ
                  · refine Fr.sI g ?_ (by decide); exact fσ
                  · exact trivial
                · rw [if_neg hc87_3]
                  by_cases hc87_4 : v2 = 4
                  · rw [if_pos hc87_4]
                    unfold w_X16_task_158
                    try simp only [forall_eq, rII, rIJ, rIP, rJJ, rJI, rJP, rPP, rPI, rPJ, g1, g2, g3, g4, g5, g6, g7, g8, Nat.reduceEqDiff, Nat.reduceAdd, false_and, and_false, true_and, and_true, reduceIte, nZ0, nZ1]
                    have q7 := rσ.2.2.1 ja 2 ((gI σ (ra 38) v1.toNat).toNat); simp only [rgJ] at q7
                    split
                    · rename_i hc162
                      skip
                      unfold w_X16_task_181
                      try simp only [forall_eq, rII, rIJ, rIP, rJJ, rJI, rJP, rPP, rPI, rPJ, g1, g2, g3, g4, g5, g6, g7, g8, Nat.reduceEqDiff, Nat.reduceAdd, false_and, and_false, true_and, and_true, reduceIte, nZ0, nZ1]
                      refine ⟨by (first | omega | with_reducible assumption | (unfold rng; omega) | (unfold rng; (repeat' split) <;> omega) | grind), ?_⟩
                      unfold w_X16_task_188
                      try simp only [forall_eq, rII, rIJ, rIP, rJJ, rJI, rJP, rPP, rPI, rPJ, g1, g2, g3, g4, g5, g6, g7, g8, Nat.reduceEqDiff, Nat.reduceAdd, false_and, and_false, true_and, and_true, reduceIte, nZ0, nZ1]
                      refine hQ _ _ ?_ ?_ ?_
                      · refine Rg.sI g ?_ (by simp only [rgS]; first | with_reducible exact nZ_rng _ | with_reducible exact nB_rng _ | with_reducible exact wr_rng _ | with_reducible exact i32any _ | (first | omega | with_reducible assumption | (unfold rng; omega) | (unfold rng; (repeat' split) <;> omega) | grind)); exact rσ
                      · refine Fr.sI g ?_ (by decide); exact fσ
                      · exact trivial
                    · rename_i hc162
                      skip
                      unfold w_X16_task_165
                      try simp only [forall_eq, rII, rIJ, rIP, rJJ, rJI, rJP, rPP, rPI, rPJ, g1, g2, g3, g4, g5, g6, g7, g8, Nat.reduceEqDiff, Nat.reduceAdd, false_and, and_false, true_and, and_true, reduceIte, nZ0, nZ1]
                      refine s_X16_outputOf g (by refine Rg.sI g ?_ (by simp only [rgS]; first | with_reducible exact nZ_rng _ | with_reducible exact nB_rng _ | with_reducible exact wr_rng _ | with_reducible exact i32any _ | (first | omega | with_reducible assumption | (unfold rng; omega) | (unfold rng; (repeat' split) <;> omega) | grind)); exact rσ) (by exact hj (by omega)) hja (by (try simp only [rII, rIJ, rIP, rJJ, rJI, rJP, rPP, rPI, rPJ, g1, g2, g3, g4, g5, g6, g7, g8, Nat.reduceEqDiff, Nat.reduceAdd, false_and, and_false, true_and, and_true, reduceIte, nZ0, nZ1]) <;> (first | omega | with_reducible assumption | (unfold rng; omega) | (unfold rng; (repeat' split) <;> omega) | grind)) (fun r25 p8 => ?_)
                      try simp only [forall_eq, rII, rIJ, rIP, rJJ, rJI, rJP, rPP, rPI, rPJ, g1, g2, g3, g4, g5, g6, g7, g8, Nat.reduceEqDiff, Nat.reduceAdd, false_and, and_false, true_and, and_true, reduceIte, nZ0, nZ1]
                      have hco := hco0 (by omega)
                      have ht9 := hto v1 (by omega) (by omega)
                      have m9 := cO_mono (jx := jx) (ja := ja) (σ := σ) (n := gI σ (ra 38) v1.toNat + 1) (m := gI σ ja 0) (by omega) (by omega)
                      have c9 := cO_succ (jx := jx) (ja := ja) (σ := σ) (n := gI σ (ra 38) v1.toNat) (by omega)
                      rw [if_pos (by omega)] at c9
                      have p9 := p8.1
                      rw [show cO jx ja _ (gI σ (ra 38) v1.toNat) = cO jx ja σ (gI σ (ra 38) v1.toNat) from by unfold cO; simp only [rII, rIJ, rIP, rJJ, rJI, rJP, rPP, rPI, rPJ, g1, g2, g3, g4, g5, g6, g7, g8, Nat.reduceEqDiff, Nat.reduceAdd, false_and, and_false, true_and, and_true, reduceIte, nZ0, nZ1]] at p9
                      refine ⟨by (first | omega | with_reducible assumption | (unfold rng; omega) | (unfold rng; (repeat' split) <;> omega) | grind), ?_⟩
                      refine ⟨by (first | omega | with_reducible assumption | (unfold rng; omega) | (unfold rng; (repeat' split) <;> omega) | grind), ?_⟩
                      unfold w_X16_task_188
                      try simp only [forall_eq, rII, rIJ, rIP, rJJ, rJI, rJP, rPP, rPI, rPJ, g1, g2, g3, g4, g5, g6, g7, g8, Nat.reduceEqDiff, Nat.reduceAdd, false_and, and_false, true_and, and_true, reduceIte, nZ0, nZ1]
                      refine hQ _ _ ?_ ?_ ?_
                      · refine Rg.sI g ?_ (by simp only [rgS]; first | with_reducible exact nZ_rng _ | with_reducible exact nB_rng _ | with_reducible exact wr_rng _ | with_reducible exact i32any _ | (first | omega | with_reducible assumption | (unfold rng; omega) | (unfold rng; (repeat' split) <;> omega) | grind)); exact rσ
                      · refine Fr.sI g ?_ (by decide); exact fσ
                      · exact trivial
                  · rw [if_neg hc87_4]
                    by_cases hc87_5 : v2 = 5
                    · rw [if_pos hc87_5]
                      unfold w_X16_task_189
                      try simp only [forall_eq, rII, rIJ, rIP, rJJ, rJI, rJP, rPP, rPI, rPJ, g1, g2, g3, g4, g5, g6, g7, g8, Nat.reduceEqDiff, Nat.reduceAdd, false_and, and_false, true_and, and_true, reduceIte, nZ0, nZ1]
                      refine ⟨by (first | omega | with_reducible assumption | (unfold rng; omega) | (unfold rng; (repeat' split) <;> omega) | grind), ?_⟩
                      refine hQ _ _ ?_ ?_ ?_
                      · refine Rg.sI g ?_ (by simp only [rgS]; first | with_reducible exact nZ_rng _ | with_reducible exact nB_rng _ | with_reducible exact wr_rng _ | with_reducible exact i32any _ | (first | omega | with_reducible assumption | (unfold rng; omega) | (unfold rng; (repeat' split) <;> omega) | grind)); exact rσ
                      · refine Fr.sI g ?_ (by decide); exact fσ
                      · exact trivial
                    · rw [if_neg hc87_5]
                      by_cases hc87_6 : v2 = 6
                      · rw [if_pos hc87_6]
                        unfold w_X16_task_197
                        try simp only [forall_eq, rII, rIJ, rIP, rJJ, rJI, rJP, rPP, rPI, rPJ, g1, g2, g3, g4, g5, g6, g7, g8, Nat.reduceEqDiff, Nat.reduceAdd, false_and, and_false, true_and, and_true, reduceIte, nZ0, nZ1]
                        refine ⟨by (first | omega | with_reducible assumption | (unfold rng; omega) | (unfold rng; (repeat' split) <;> omega) | grind), ?_⟩
                        refine hQ _ _ ?_ ?_ ?_
                        · refine Rg.sI g ?_ (by simp only [rgS]; first | with_reducible exact nZ_rng _ | with_reducible exact nB_rng _ | with_reducible exact wr_rng _ | with_reducible exact i32any _ | (first | omega | with_reducible assumption | (unfold rng; omega) | (unfold rng; (repeat' split) <;> omega) | grind)); exact rσ
                        · refine Fr.sI g ?_ (by decide); exact fσ
                        · exact trivial
                      · rw [if_neg hc87_6]
                        by_cases hc87_7 : v2 = 7
                        · rw [if_pos hc87_7]
                          unfold w_X16_task_205
                          try simp only [forall_eq, rII, rIJ, rIP, rJJ, rJI, rJP, rPP, rPI, rPJ, g1, g2, g3, g4, g5, g6, g7, g8, Nat.reduceEqDiff, Nat.reduceAdd, false_and, and_false, true_and, and_true, reduceIte, nZ0, nZ1]
                          have q9 := rσ.2.2.1 ja 2 ((gI σ (ra 38) v1.toNat).toNat); simp only [rgJ] at q9
                          split
                          · rename_i hc207
                            skip
                            unfold w_X16_task_220
                            try simp only [forall_eq, rII, rIJ, rIP, rJJ, rJI, rJP, rPP, rPI, rPJ, g1, g2, g3, g4, g5, g6, g7, g8, Nat.reduceEqDiff, Nat.reduceAdd, false_and, and_false, true_and, and_true, reduceIte, nZ0, nZ1]
                            unfold w_X16_task_223
                            try simp only [forall_eq, rII, rIJ, rIP, rJJ, rJI, rJP, rPP, rPI, rPJ, g1, g2, g3, g4, g5, g6, g7, g8, Nat.reduceEqDiff, Nat.reduceAdd, false_and, and_false, true_and, and_true, reduceIte, nZ0, nZ1]
                            refine hQ _ _ ?_ ?_ ?_
                            · refine Rg.sI g ?_ (by simp only [rgS]; first | with_reducible exact nZ_rng _ | with_reducible exact nB_rng _ | with_reducible exact wr_rng _ | with_reducible exact i32any _ | (first | omega | with_reducible assumption | (unfold rng; omega) | (unfold rng; (repeat' split) <;> omega) | grind)); exact rσ
                            · refine Fr.sI g ?_ (by decide); exact fσ
                            · exact trivial
                          · rename_i hc207
                            skip
                            unfold w_X16_task_210
                            try simp only [forall_eq, rII, rIJ, rIP, rJJ, rJI, rJP, rPP, rPI, rPJ, g1, g2, g3, g4, g5, g6, g7, g8, Nat.reduceEqDiff, Nat.reduceAdd, false_and, and_false, true_and, and_true, reduceIte, nZ0, nZ1]
                            refine ⟨by (first | omega | with_reducible assumption | (unfold rng; omega) | (unfold rng; (repeat' split) <;> omega) | grind), ?_⟩
                            unfold w_X16_task_223
                            try simp only [forall_eq, rII, rIJ, rIP, rJJ, rJI, rJP, rPP, rPI, rPJ, g1, g2, g3, g4, g5, g6, g7, g8, Nat.reduceEqDiff, Nat.reduceAdd, false_and, and_false, true_and, and_true, reduceIte, nZ0, nZ1]
                            refine hQ _ _ ?_ ?_ ?_
                            · refine Rg.sI g ?_ (by simp only [rgS]; first | with_reducible exact nZ_rng _ | with_reducible exact nB_rng _ | with_reducible exact wr_rng _ | with_reducible exact i32any _ | (first | omega | with_reducible assumption | (unfold rng; omega) | (unfold rng; (repeat' split) <;> omega) | grind)); exact rσ
                            · refine Fr.sI g ?_ (by decide); exact fσ
                            · exact trivial
                        · rw [if_neg hc87_7]
                          unfold w_X16_task_224
                          try simp only [forall_eq, rII, rIJ, rIP, rJJ, rJI, rJP, rPP, rPI, rPJ, g1, g2, g3, g4, g5, g6, g7, g8, Nat.reduceEqDiff, Nat.reduceAdd, false_and, and_false, true_and, and_true, reduceIte, nZ0, nZ1]
                          have q10 := rσ.2.1 93; simp only [rgS] at q10
                          split
                          · rename_i hc228
                            skip
                            unfold w_X16_task_244
                            try simp only [forall_eq, rII, rIJ, rIP, rJJ, rJI, rJP, rPP, rPI, rPJ, g1, g2, g3, g4, g5, g6, g7, g8, Nat.reduceEqDiff, Nat.reduceAdd, false_and, and_false, true_and, and_true, reduceIte, nZ0, nZ1]
                            unfold w_X16_task_245
                            try simp only [forall_eq, rII, rIJ, rIP, rJJ, rJI, rJP, rPP, rPI, rPJ, g1, g2, g3, g4, g5, g6, g7, g8, Nat.reduceEqDiff, Nat.reduceAdd, false_and, and_false, true_and, and_true, reduceIte, nZ0, nZ1]
                            refine hQ _ _ ?_ ?_ ?_
                            · refine Rg.sI g ?_ (by simp only [rgS]; first | with_reducible exact nZ_rng _ | with_reducible exact nB_rng _ | with_reducible exact wr_rng _ | with_reducible exact i32any _ | (first | omega | with_reducible assumption | (unfold rng; omega) | (unfold rng; (repeat' split) <;> omega) | grind)); exact rσ
                            · refine Fr.sI g ?_ (by decide); exact fσ
                            · exact trivial
                          · rename_i hc228
                            skip
                            unfold w_X16_task_231
                            try simp only [forall_eq, rII, rIJ, rIP, rJJ, rJI, rJP, rPP, rPI, rPJ, g1, g2, g3, g4, g5, g6, g7, g8, Nat.reduceEqDiff, Nat.reduceAdd, false_and, and_false, true_and, and_true, reduceIte, nZ0, nZ1]
                            refine ⟨by (first | omega | with_reducible assumption | (unfold rng; omega) | (unfold rng; (repeat' split) <;> omega) | grind), ?_⟩
                            have q11 := rσ.1 44 (v1.toNat); simp only [rgT] at q11
                            split
                            · rename_i hc237
                              skip
                              unfold w_X16_task_244
                              try simp only [forall_eq, rII, rIJ, rIP, rJJ, rJI, rJP, rPP, rPI, rPJ, g1, g2, g3, g4, g5, g6, g7, g8, Nat.reduceEqDiff, Nat.reduceAdd, false_and, and_false, true_and, and_true, reduceIte, nZ0, nZ1]
                              unfold w_X16_task_245
                              try simp only [forall_eq, rII, rIJ, rIP, rJJ, rJI, rJP, rPP, rPI, rPJ, g1, g2, g3, g4, g5, g6, g7, g8, Nat.reduceEqDiff, Nat.reduceAdd, false_and, and_false, true_and, and_true, reduceIte, nZ0, nZ1]
                              refine hQ _ _ ?_ ?_ ?_
                              · refine Rg.sI g ?_ (by simp only [rgS]; first | with_reducible exact nZ_rng _ | with_reducible exact nB_rng _ | with_reducible exact wr_rng _ | with_reducible exact i32any _ | (first | omega | with_reducible assumption | (unfold rng; omega) | (unfold rng; (repeat' split) <;> omega) | grind)); exact rσ
                              · refine Fr.sI g ?_ (by decide); exact fσ
                              · exact trivial
                            · rename_i hc237
                              skip
                              unfold w_X16_task_240
                              try simp only [forall_eq, rII, rIJ, rIP, rJJ, rJI, rJP, rPP, rPI, rPJ, g1, g2, g3, g4, g5, g6, g7, g8, Nat.reduceEqDiff, Nat.reduceAdd, false_and, and_false, true_and, and_true, reduceIte, nZ0, nZ1]
                              unfold w_X16_task_245
                              try simp only [forall_eq, rII, rIJ, rIP, rJJ, rJI, rJP, rPP, rPI, rPJ, g1, g2, g3, g4, g5, g6, g7, g8, Nat.reduceEqDiff, Nat.reduceAdd, false_and, and_false, true_and, and_true, reduceIte, nZ0, nZ1]
                              refine hQ _ _ ?_ ?_ ?_
                              · refine Rg.sI g ?_ (by simp only [rgS]; first | with_reducible exact nZ_rng _ | with_reducible exact nB_rng _ | with_reducible exact wr_rng _ | with_reducible exact i32any _ | (first | omega | with_reducible assumption | (unfold rng; omega) | (unfold rng; (repeat' split) <;> omega) | grind)); exact rσ
                              · refine Fr.sI g ?_ (by decide); exact fσ
                              · exact trivial
        · rename_i hc48
          skip
          unfold w_X16_task_51
          try simp only [forall_eq, rII, rIJ, rIP, rJJ, rJI, rJP, rPP, rPI, rPJ, g1, g2, g3, g4, g5, g6, g7, g8, Nat.reduceEqDiff, Nat.reduceAdd, false_and, and_false, true_and, and_true, reduceIte, nZ0, nZ1]
          unfold w_X16_task_56
          try simp only [forall_eq, rII, rIJ, rIP, rJJ, rJI, rJP, rPP, rPI, rPJ, g1, g2, g3, g4, g5, g6, g7, g8, Nat.reduceEqDiff, Nat.reduceAdd, false_and, and_false, true_and, and_true, reduceIte, nZ0, nZ1]
          try rw [if_neg (by decide)]
          unfold w_X16_task_66
          try simp only [forall_eq, rII, rIJ, rIP, rJJ, rJI, rJP, rPP, rPI, rPJ, g1, g2, g3, g4, g5, g6, g7, g8, Nat.reduceEqDiff, Nat.reduceAdd, false_and, and_false, true_and, and_true, reduceIte, nZ0, nZ1]
          refine hQ _ _ ?_ ?_ ?_
          · refine Rg.sI g ?_ (by simp only [rgS]; first | with_reducible exact nZ_rng _ | with_reducible exact nB_rng _ | with_reducible exact wr_rng _ | with_reducible exact i32any _ | (first | omega | with_reducible assumption | (unfold rng; omega) | (unfold rng; (repeat' split) <;> omega) | grind)); exact rσ
          · refine Fr.sI g ?_ (by decide); exact fσ
          · exact trivial
      · rename_i hc32
        skip
        unfold w_X16_task_35
        try simp only [forall_eq, rII, rIJ, rIP, rJJ, rJI, rJP, rPP, rPI, rPJ, g1, g2, g3, g4, g5, g6, g7, g8, Nat.reduceEqDiff, Nat.reduceAdd, false_and, and_false, true_and, and_true, reduceIte, nZ0, nZ1]
        unfold w_X16_task_56
        try simp only [forall_eq, rII, rIJ, rIP, rJJ, rJI, rJP, rPP, rPI, rPJ, g1, g2, g3, g4, g5, g6, g7, g8, Nat.reduceEqDiff, Nat.reduceAdd, false_and, and_false, true_and, and_true, reduceIte, nZ0, nZ1]
        try rw [if_neg (by decide)]
        unfold w_X16_task_66
        try simp only [forall_eq, rII, rIJ, rIP, rJJ, rJI, rJP, rPP, rPI, rPJ, g1, g2, g3, g4, g5, g6, g7, g8, Nat.reduceEqDiff, Nat.reduceAdd, false_and, and_false, true_and, and_true, reduceIte, nZ0, nZ1]
        refine hQ _ _ ?_ ?_ ?_
        · refine Rg.sI g ?_ (by simp only [rgS]; first | with_reducible exact nZ_rng _ | with_reducible exact nB_rng _ | with_reducible exact wr_rng _ | with_reducible exact i32any _ | (first | omega | with_reducible assumption | (unfold rng; omega) | (unfold rng; (repeat' split) <;> omega) | grind)); exact rσ
        · refine Fr.sI g ?_ (by decide); exact fσ
        · exact trivial
  · rename_i hc14
    skip
    unfold w_X16_task_17
    try simp only [forall_eq, rII, rIJ, rIP, rJJ, rJI, rJP, rPP, rPI, rPJ, g1, g2, g3, g4, g5, g6, g7, g8, Nat.reduceEqDiff, Nat.reduceAdd, false_and, and_false, true_and, and_true, reduceIte, nZ0, nZ1]
    unfold w_X16_task_56
    try simp only [forall_eq, rII, rIJ, rIP, rJJ, rJI, rJP, rPP, rPI, rPJ, g1, g2, g3, g4, g5, g6, g7, g8, Nat.reduceEqDiff, Nat.reduceAdd, false_and, and_false, true_and, and_true, reduceIte, nZ0, nZ1]
    try rw [if_neg (by decide)]
    unfold w_X16_task_66
    try simp only [forall_eq, rII, rIJ, rIP, rJJ, rJI, rJP, rPP, rPI, rPJ, g1, g2, g3, g4, g5, g6, g7, g8, Nat.reduceEqDiff, Nat.reduceAdd, false_and, and_false, true_and, and_true, reduceIte, nZ0, nZ1]
    refine hQ _ _ ?_ ?_ ?_
    · refine Rg.sI g ?_ (by simp only [rgS]; first | with_reducible exact nZ_rng _ | with_reducible exact nB_rng _ | with_reducible exact wr_rng _ | with_reducible exact i32any _ | (first | omega | with_reducible assumption | (unfold rng; omega) | (unfold rng; (repeat' split) <;> omega) | grind)); exact rσ
    · refine Fr.sI g ?_ (by decide); exact fσ
    · exact trivial
set_option maxHeartbeats 2000000 in
theorem s2_X16_mark {ra : Nat → Nat} {jx : Nat → Nat → Nat} {rm : Nat} (g : Geo ra jx rm) {σ : Sg} (rσ : Rg ra jx rm σ) {Q : Sg → Int → Prop} {X : Sg → String → Prop} (hQ : ∀ (σ' : Sg) (r : Int), Rg ra jx rm σ' → Fr ra jx rm [97, 98] [0, 93, 94] σ σ' → (gI σ' (ra 98) 0 = gI σ (ra 98) 0 ∧ (gI σ' (ra 98) 1 = 0 ∨ gI σ' (ra 98) 1 = gI σ (ra 98) 1)) → Q σ' r) : wp_X16_mark ra jx rm σ Q X := by
  obtain ⟨g1, g2, g3, g4, g5, g6, g7, g8⟩ := id g
  have fσ : Fr ra jx rm [97, 98] [0, 93, 94] σ σ := Fr.rf
  unfold wp_X16_mark
  unfold w_X16_mark_0
  try simp only [forall_eq, rII, rIJ, rIP, rJJ, rJI, rJP, rPP, rPI, rPJ, g1, g2, g3, g4, g5, g6, g7, g8, Nat.reduceEqDiff, Nat.reduceAdd, false_and, and_false, true_and, and_true, reduceIte, nZ0, nZ1]
  have q1 := rσ.2.1 30; simp only [rgS] at q1
  split
  · rename_i hc5
    skip
    unfold w_X16_mark_29
    try simp only [forall_eq, rII, rIJ, rIP, rJJ, rJI, rJP, rPP, rPI, rPJ, g1, g2, g3, g4, g5, g6, g7, g8, Nat.reduceEqDiff, Nat.reduceAdd, false_and, and_false, true_and, and_true, reduceIte, nZ0, nZ1]
    unfold w_X16_mark_34
    try simp only [forall_eq, rII, rIJ, rIP, rJJ, rJI, rJP, rPP, rPI, rPJ, g1, g2, g3, g4, g5, g6, g7, g8, Nat.reduceEqDiff, Nat.reduceAdd, false_and, and_false, true_and, and_true, reduceIte, nZ0, nZ1]
    try rw [if_neg (by decide)]
    unfold w_X16_mark_44
    try simp only [forall_eq, rII, rIJ, rIP, rJJ, rJI, rJP, rPP, rPI, rPJ, g1, g2, g3, g4, g5, g6, g7, g8, Nat.reduceEqDiff, Nat.reduceAdd, false_and, and_false, true_and, and_true, reduceIte, nZ0, nZ1]
    refine hQ _ _ ?_ ?_ ?_
    · refine Rg.sI g ?_ (by simp only [rgS]; first | with_reducible exact nZ_rng _ | with_reducible exact nB_rng _ | with_reducible exact wr_rng _ | with_reducible exact i32any _ | (first | omega | with_reducible assumption | (unfold rng; omega) | (unfold rng; (repeat' split) <;> omega) | grind)); exact rσ
    · refine Fr.sI g ?_ (by decide); exact fσ
    · refine ⟨by (try simp only [rII, rIJ, rIP, rJJ, rJI, rJP, rPP, rPI, rPJ, g1, g2, g3, g4, g5, g6, g7, g8, Nat.reduceEqDiff, Nat.reduceAdd, false_and, and_false, true_and, and_true, reduceIte, nZ0, nZ1]), ?_⟩; first | (refine Or.inl ?_; (try simp only [rII, rIJ, rIP, rJJ, rJI, rJP, rPP, rPI, rPJ, g1, g2, g3, g4, g5, g6, g7, g8, Nat.reduceEqDiff, Nat.reduceAdd, false_and, and_false, true_and, and_true, reduceIte, nZ0, nZ1]); done) | (refine Or.inr ?_; (try simp only [rII, rIJ, rIP, rJJ, rJI, rJP, rPP, rPI, rPJ, g1, g2, g3, g4, g5, g6, g7, g8, Nat.reduceEqDiff, Nat.reduceAdd, false_and, and_false, true_and, and_true, reduceIte, nZ0, nZ1]); done)
  · rename_i hc5
    skip
    unfold w_X16_mark_8
    try simp only [forall_eq, rII, rIJ, rIP, rJJ, rJI, rJP, rPP, rPI, rPJ, g1, g2, g3, g4, g5, g6, g7, g8, Nat.reduceEqDiff, Nat.reduceAdd, false_and, and_false, true_and, and_true, reduceIte, nZ0, nZ1]
    have q2 := rσ.2.1 32; simp only [rgS] at q2
    split
    · rename_i hc12
      skip
      unfold w_X16_mark_29
      try simp only [forall_eq, rII, rIJ, rIP, rJJ, rJI, rJP, rPP, rPI, rPJ, g1, g2, g3, g4, g5, g6, g7, g8, Nat.reduceEqDiff, Nat.reduceAdd, false_and, and_false, true_and, and_true, reduceIte, nZ0, nZ1]
      unfold w_X16_mark_34
      try simp only [forall_eq, rII, rIJ, rIP, rJJ, rJI, rJP, rPP, rPI, rPJ, g1, g2, g3, g4, g5, g6, g7, g8, Nat.reduceEqDiff, Nat.reduceAdd, false_and, and_false, true_and, and_true, reduceIte, nZ0, nZ1]
      try rw [if_neg (by decide)]
      unfold w_X16_mark_44
      try simp only [forall_eq, rII, rIJ, rIP, rJJ, rJI, rJP, rPP, rPI, rPJ, g1, g2, g3, g4, g5, g6, g7, g8, Nat.reduceEqDiff, Nat.reduceAdd, false_and, and_false, true_and, and_true, reduceIte, nZ0, nZ1]
      refine hQ _ _ ?_ ?_ ?_
      · refine Rg.sI g ?_ (by simp only [rgS]; first | with_reducible exact nZ_rng _ | with_reducible exact nB_rng _ | with_reducible exact wr_rng _ | with_reducible exact i32any _ | (first | omega | with_reducible assumption | (unfold rng; omega) | (unfold rng; (repeat' split) <;> omega) | grind)); exact rσ
      · refine Fr.sI g ?_ (by decide); exact fσ
      · refine ⟨by (try simp only [rII, rIJ, rIP, rJJ, rJI, rJP, rPP, rPI, rPJ, g1, g2, g3, g4, g5, g6, g7, g8, Nat.reduceEqDiff, Nat.reduceAdd, false_and, and_false, true_and, and_true, reduceIte, nZ0, nZ1]), ?_⟩; first | (refine Or.inl ?_; (try simp only [rII, rIJ, rIP, rJJ, rJI, rJP, rPP, rPI, rPJ, g1, g2, g3, g4, g5, g6, g7, g8, Nat.reduceEqDiff, Nat.reduceAdd, false_and, and_false, true_and, and_true, reduceIte, nZ0, nZ1]); done) | (refine Or.inr ?_; (try simp only [rII, rIJ, rIP, rJJ, rJI, rJP, rPP, rPI, rPJ, g1, g2, g3, g4, g5, g6, g7, g8, Nat.reduceEqDiff, Nat.reduceAdd, false_and, and_false, true_and, and_true, reduceIte, nZ0, nZ1]); done)
    · rename_i hc12
      skip
      unfold w_X16_mark_15
      try simp only [forall_eq, rII, rIJ, rIP, rJJ, rJI, rJP, rPP, rPI, rPJ, g1, g2, g3, g4, g5, g6, g7, g8, Nat.reduceEqDiff, Nat.reduceAdd, false_and, and_false, true_and, and_true, reduceIte, nZ0, nZ1]
      have q3 := rσ.2.1 31; simp only [rgS] at q3
      split
      · rename_i hc19
        skip
        unfold w_X16_mark_29
        try simp only [forall_eq, rII, rIJ, rIP, rJJ, rJI, rJP, rPP, rPI, rPJ, g1, g2, g3, g4, g5, g6, g7, g8, Nat.reduceEqDiff, Nat.reduceAdd, false_and, and_false, true_and, and_true, reduceIte, nZ0, nZ1]
        unfold w_X16_mark_34
        try simp only [forall_eq, rII, rIJ, rIP, rJJ, rJI, rJP, rPP, rPI, rPJ, g1, g2, g3, g4, g5, g6, g7, g8, Nat.reduceEqDiff, Nat.reduceAdd, false_and, and_false, true_and, and_true, reduceIte, nZ0, nZ1]
        try rw [if_neg (by decide)]
        unfold w_X16_mark_44
        try simp only [forall_eq, rII, rIJ, rIP, rJJ, rJI, rJP, rPP, rPI, rPJ, g1, g2, g3, g4, g5, g6, g7, g8, Nat.reduceEqDiff, Nat.reduceAdd, false_and, and_false, true_and, and_true, reduceIte, nZ0, nZ1]
        refine hQ _ _ ?_ ?_ ?_
        · refine Rg.sI g ?_ (by simp only [rgS]; first | with_reducible exact nZ_rng _ | with_reducible exact nB_rng _ | with_reducible exact wr_rng _ | with_reducible exact i32any _ | (first | omega | with_reducible assumption | (unfold rng; omega) | (unfold rng; (repeat' split) <;> omega) | grind)); exact rσ
        · refine Fr.sI g ?_ (by decide); exact fσ
        · refine ⟨by (try simp only [rII, rIJ, rIP, rJJ, rJI, rJP, rPP, rPI, rPJ, g1, g2, g3, g4, g5, g6, g7, g8, Nat.reduceEqDiff, Nat.reduceAdd, false_and, and_false, true_and, and_true, reduceIte, nZ0, nZ1]), ?_⟩; first | (refine Or.inl ?_; (try simp only [rII, rIJ, rIP, rJJ, rJI, rJP, rPP, rPI, rPJ, g1, g2, g3, g4, g5, g6, g7, g8, Nat.reduceEqDiff, Nat.reduceAdd, false_and, and_false, true_and, and_true, reduceIte, nZ0, nZ1]); done) | (refine Or.inr ?_; (try simp only [rII, rIJ, rIP, rJJ, rJI, rJP, rPP, rPI, rPJ, g1, g2, g3, g4, g5, g6, g7, g8, Nat.reduceEqDiff, Nat.reduceAdd, false_and, and_false, true_and, and_true, reduceIte, nZ0, nZ1]); done)
      · rename_i hc19
        skip
        unfold w_X16_mark_22
        try simp only [forall_eq, rII, rIJ, rIP, rJJ, rJI, rJP, rPP, rPI, rPJ, g1, g2, g3, g4, g5, g6, g7, g8, Nat.reduceEqDiff, Nat.reduceAdd, false_and, and_false, true_and, and_true, reduceIte, nZ0, nZ1]
        have q4 := rσ.2.1 93; simp only [rgS] at q4
        split
        · rename_i hc26
          skip
          unfold w_X16_mark_33
          try simp only [forall_eq, rII, rIJ, rIP, rJJ, rJI, rJP, rPP, rPI, rPJ, g1, g2, g3, g4, g5, g6, g7, g8, Nat.reduceEqDiff, Nat.reduceAdd, false_and, and_false, true_and, and_true, reduceIte, nZ0, nZ1]
          unfold w_X16_mark_34
          try simp only [forall_eq, rII, rIJ, rIP, rJJ, rJI, rJP, rPP, rPI, rPJ, g1, g2, g3, g4, g5, g6, g7, g8, Nat.reduceEqDiff, Nat.reduceAdd, false_and, and_false, true_and, and_true, reduceIte, nZ0, nZ1]
          try rw [if_pos (by decide)]
          unfold w_X16_mark_46
          try simp only [forall_eq, rII, rIJ, rIP, rJJ, rJI, rJP, rPP, rPI, rPJ, g1, g2, g3, g4, g5, g6, g7, g8, Nat.reduceEqDiff, Nat.reduceAdd, false_and, and_false, true_and, and_true, reduceIte, nZ0, nZ1]
          have q5 := rσ.2.1 94; simp only [rgS] at q5
          have q6 := rσ.2.1 33; simp only [rgS] at q6
          refine hQ _ _ ?_ ?_ ?_
          · refine Rg.aI g ?_ (by simp only [rgT]; first | with_reducible exact nZ_rng _ | with_reducible exact nB_rng _ | with_reducible exact wr_rng _ | with_reducible exact i32any _ | (first | omega | with_reducible assumption | (unfold rng; omega) | (unfold rng; (repeat' split) <;> omega) | grind)); refine Rg.aI g ?_ (by simp only [rgT]; first | with_reducible exact nZ_rng _ | with_reducible exact nB_rng _ | with_reducible exact wr_rng _ | with_reducible exact i32any _ | (first | omega | with_reducible assumption | (unfold rng; omega) | (unfold rng; (repeat' split) <;> omega) | grind)); refine Rg.sI g ?_ (by simp only [rgS]; first | with_reducible exact nZ_rng _ | with_reducible exact nB_rng _ | with_reducible exact wr_rng _ | with_reducible exact i32any _ | (first | omega | with_reducible assumption | (unfold rng; omega) | (unfold rng; (repeat' split) <;> omega) | grind)); refine Rg.sI g ?_ (by simp only [rgS]; first | with_reducible exact nZ_rng _ | with_reducible exact nB_rng _ | with_reducible exact wr_rng _ | with_reducible exact i32any _ | (first | omega | with_reducible assumption | (unfold rng; omega) | (unfold rng; (repeat' split) <;> omega) | grind)); refine Rg.sI g ?_ (by simp only [rgS]; first | with_reducible exact nZ_rng _ | with_reducible exact nB_rng _ | with_reducible exact wr_rng _ | with_reducible exact i32any _ | (first | omega | with_reducible assumption | (unfold rng; omega) | (unfold rng; (repeat' split) <;> omega) | grind)); exact rσ
          · refine Fr.aI g ?_ (by decide); refine Fr.aI g ?_ (by decide); refine Fr.sI g ?_ (by decide); refine Fr.sI g ?_ (by decide); refine Fr.sI g ?_ (by decide); exact fσ
          · refine ⟨by (try simp only [rII, rIJ, rIP, rJJ, rJI, rJP, rPP, rPI, rPJ, g1, g2, g3, g4, g5, g6, g7, g8, Nat.reduceEqDiff, Nat.reduceAdd, false_and, and_false, true_and, and_true, reduceIte, nZ0, nZ1]), ?_⟩; first | (refine Or.inl ?_; (try simp only [rII, rIJ, rIP, rJJ, rJI, rJP, rPP, rPI, rPJ, g1, g2, g3, g4, g5, g6, g7, g8, Nat.reduceEqDiff, Nat.reduceAdd, false_and, and_false, true_and, and_true, reduceIte, nZ0, nZ1]); done) | (refine Or.inr ?_; (try simp only [rII, rIJ, rIP, rJJ, rJI, rJP, rPP, rPI, rPJ, g1, g2, g3, g4, g5, g6, g7, g8, Nat.reduceEqDiff, Nat.reduceAdd, false_and, and_false, true_and, and_true, reduceIte, nZ0, nZ1]); done)
        · rename_i hc26
          skip
          unfold w_X16_mark_29
          try simp only [forall_eq, rII, rIJ, rIP, rJJ, rJI, rJP, rPP, rPI, rPJ, g1, g2, g3, g4, g5, g6, g7, g8, Nat.reduceEqDiff, Nat.reduceAdd, false_and, and_false, true_and, and_true, reduceIte, nZ0, nZ1]
          unfold w_X16_mark_34
          try simp only [forall_eq, rII, rIJ, rIP, rJJ, rJI, rJP, rPP, rPI, rPJ, g1, g2, g3, g4, g5, g6, g7, g8, Nat.reduceEqDiff, Nat.reduceAdd, false_and, and_false, true_and, and_true, reduceIte, nZ0, nZ1]
          try rw [if_neg (by decide)]
          unfold w_X16_mark_44
          try simp only [forall_eq, rII, rIJ, rIP, rJJ, rJI, rJP, rPP, rPI, rPJ, g1, g2, g3, g4, g5, g6, g7, g8, Nat.reduceEqDiff, Nat.reduceAdd, false_and, and_false, true_and, and_true, reduceIte, nZ0, nZ1]
          refine hQ _ _ ?_ ?_ ?_
          · refine Rg.sI g ?_ (by simp only [rgS]; first | with_reducible exact nZ_rng _ | with_reducible exact nB_rng _ | with_reducible exact wr_rng _ | with_reducible exact i32any _ | (first | omega | with_reducible assumption | (unfold rng; omega) | (unfold rng; (repeat' split) <;> omega) | grind)); exact rσ
          · refine Fr.sI g ?_ (by decide); exact fσ
          · refine ⟨by (try simp only [rII, rIJ, rIP, rJJ, rJI, rJP, rPP, rPI, rPJ, g1, g2, g3, g4, g5, g6, g7, g8, Nat.reduceEqDiff, Nat.reduceAdd, false_and, and_false, true_and, and_true, reduceIte, nZ0, nZ1]), ?_⟩; first | (refine Or.inl ?_; (try simp only [rII, rIJ, rIP, rJJ, rJI, rJP, rPP, rPI, rPJ, g1, g2, g3, g4, g5, g6, g7, g8, Nat.reduceEqDiff, Nat.reduceAdd, false_and, and_false, true_and, and_true, reduceIte, nZ0, nZ1]); done) | (refine Or.inr ?_; (try simp only [rII, rIJ, rIP, rJJ, rJI, rJP, rPP, rPI, rPJ, g1, g2, g3, g4, g5, g6, g7, g8, Nat.reduceEqDiff, Nat.reduceAdd, false_and, and_false, true_and, and_true, reduceIte, nZ0, nZ1]); done)
set_option maxHeartbeats 4000000 in
theorem s2_X16_fail_ {ra : Nat → Nat} {jx : Nat → Nat → Nat} {rm : Nat} {ja : Nat} (g : Geo ra jx rm) {σ : Sg} (rσ : Rg ra jx rm σ) (hja : ja = ra 15 ∨ ja = ra 16) (hR : gI σ rm 30 ≠ 0 → gP σ rm 17 = some ja ∧ ((ThE ra rm σ ∧ RecE ra jx rm ja σ ∧ HeE ra rm σ ∧ MkI ra jx ja σ) ∧ LcI ra rm σ ∧ (∀ i : Nat, i < 1100 → gI σ (ra 54) i ≤ gI σ rm 34)) ∧ 1 ≤ gI σ rm 33 ∧ JobOK jx ja σ ∧ 1 ≤ gI σ rm 36 ∧ LyI ra jx rm ja σ) {Q : Sg → Int → Prop} {X : Sg → String → Prop} (hQ : ∀ (σ' : Sg) (r : Int), Rg ra jx rm σ' → Fr ra jx rm [37, 38, 39, 40, 41, 42, 43, 44, 45, 46, 47, 48, 49, 51, 52, 53, 54, 55, 56, 57, 58, 60, 61, 62, 63, 64, 65, 68, 69, 70, 71, 72, 73, 74, 75, 76, 77, 78, 86, 87, 88, 89] [0, 31, 33, 36, 50, 66, 67, 79, 80, 90, 91, 93, 112] σ σ' → ((∃ c, σ' = pI σ rm 0 c) ∨ ((gP σ' rm 17 = some ja ∧ ((ThE ra rm σ' ∧ RecE ra jx rm ja σ' ∧ HeE ra rm σ' ∧ MkI ra jx ja σ') ∧ LcI ra rm σ' ∧ (∀ i : Nat, i < 1100 → gI σ' (ra 54) i ≤ gI σ' rm 34)) ∧ 1 ≤ gI σ' rm 33 ∧ JobOK jx ja σ' ∧ 1 ≤ gI σ' rm 36 ∧ LyI ra jx rm ja σ') ∧ gI σ rm 30 ≠ 0)) → Q σ' r) : wp_X16_fail_ ra jx rm σ Q X := by
  obtain ⟨g1, g2, g3, g4, g5, g6, g7, g8⟩ := id g
  have fσ : Fr ra jx rm [37, 38, 39, 40, 41, 42, 43, 44, 45, 46, 47, 48, 49, 51, 52, 53, 54, 55, 56, 57, 58, 60, 61, 62, 63, 64, 65, 68, 69, 70, 71, 72, 73, 74, 75, 76, 77, 78, 86, 87, 88, 89] [0, 31, 33, 36, 50, 66, 67, 79, 80, 90, 91, 93, 112] σ σ := Fr.rf
  unfold wp_X16_fail_
  unfold w_X16_fail__0
  try simp only [forall_eq, rII, rIJ, rIP, rJJ, rJI, rJP, rPP, rPI, rPJ, g1, g2, g3, g4, g5, g6, g7, g8, Nat.reduceEqDiff, Nat.reduceAdd, false_and, and_false, true_and, and_true, reduceIte, nZ0, nZ1]
  have q1 := rσ.2.1 30; simp only [rgS] at q1
  split
  · rename_i hc5
    skip
    unfold w_X16_fail__15
    try simp only [forall_eq, rII, rIJ, rIP, rJJ, rJI, rJP, rPP, rPI, rPJ, g1, g2, g3, g4, g5, g6, g7, g8, Nat.reduceEqDiff, Nat.reduceAdd, false_and, and_false, true_and, and_true, reduceIte, nZ0, nZ1]
    unfold w_X16_fail__20
    try simp only [forall_eq, rII, rIJ, rIP, rJJ, rJI, rJP, rPP, rPI, rPJ, g1, g2, g3, g4, g5, g6, g7, g8, Nat.reduceEqDiff, Nat.reduceAdd, false_and, and_false, true_and, and_true, reduceIte, nZ0, nZ1]
    try rw [if_neg (by decide)]
    unfold w_X16_fail__30
    try simp only [forall_eq, rII, rIJ, rIP, rJJ, rJI, rJP, rPP, rPI, rPJ, g1, g2, g3, g4, g5, g6, g7, g8, Nat.reduceEqDiff, Nat.reduceAdd, false_and, and_false, true_and, and_true, reduceIte, nZ0, nZ1]
    unfold w_X16_fail__42
    try simp only [forall_eq, rII, rIJ, rIP, rJJ, rJI, rJP, rPP, rPI, rPJ, g1, g2, g3, g4, g5, g6, g7, g8, Nat.reduceEqDiff, Nat.reduceAdd, false_and, and_false, true_and, and_true, reduceIte, nZ0, nZ1]
    refine hQ _ _ ?_ ?_ ?_
    · refine Rg.sI g ?_ (by simp only [rgS]; first | with_reducible exact nZ_rng _ | with_reducible exact nB_rng _ | with_reducible exact wr_rng _ | with_reducible exact i32any _ | (first | omega | with_reducible assumption | (unfold rng; omega) | (unfold rng; (repeat' split) <;> omega))); exact rσ
    · refine Fr.sI g ?_ (by decide); exact fσ
    · first | exact Or.inl ⟨_, rfl⟩ | exact Or.inr ⟨p9, h30⟩
  · rename_i hc5
    skip
    unfold w_X16_fail__8
    try simp only [forall_eq, rII, rIJ, rIP, rJJ, rJI, rJP, rPP, rPI, rPJ, g1, g2, g3, g4, g5, g6, g7, g8, Nat.reduceEqDiff, Nat.reduceAdd, false_and, and_false, true_and, and_true, reduceIte, nZ0, nZ1]
    have q2 := rσ.2.1 32; simp only [rgS] at q2
    split
    · rename_i hc12
      skip
      unfold w_X16_fail__19
      try simp only [forall_eq, rII, rIJ, rIP, rJJ, rJI, rJP, rPP, rPI, rPJ, g1, g2, g3, g4, g5, g6, g7, g8, Nat.reduceEqDiff, Nat.reduceAdd, false_and, and_false, true_and, and_true, reduceIte, nZ0, nZ1]
      unfold w_X16_fail__20
      try simp only [forall_eq, rII, rIJ, rIP, rJJ, rJI, rJP, rPP, rPI, rPJ, g1, g2, g3, g4, g5, g6, g7, g8, Nat.reduceEqDiff, Nat.reduceAdd, false_and, and_false, true_and, and_true, reduceIte, nZ0, nZ1]
      try rw [if_pos (by decide)]
      unfold w_X16_fail__34
      try simp only [forall_eq, rII, rIJ, rIP, rJJ, rJI, rJP, rPP, rPI, rPJ, g1, g2, g3, g4, g5, g6, g7, g8, Nat.reduceEqDiff, Nat.reduceAdd, false_and, and_false, true_and, and_true, reduceIte, nZ0, nZ1]
      have h30 : gI σ rm 30 ≠ 0 := by assumption
      have hr9 := hR (by assumption)
      have h33 := rσ.2.1 33; simp only [rgS] at h33
      have h33b := hr9.2.2.1
      have q3 := rσ.2.1 33; simp only [rgS] at q3
      refine s_X16_beginAgain g (by refine Rg.sI g ?_ (by simp only [rgS]; first | with_reducible exact nZ_rng _ | with_reducible exact nB_rng _ | with_reducible exact wr_rng _ | with_reducible exact i32any _ | (first | omega | with_reducible assumption | (unfold rng; omega) | (unfold rng; (repeat' split) <;> omega))); exact rσ) (by (try simp only [rII, rIJ, rIP, rJJ, rJI, rJP, rPP, rPI, rPJ, g1, g2, g3, g4, g5, g6, g7, g8, Nat.reduceEqDiff, Nat.reduceAdd, false_and, and_false, true_and, and_true, reduceIte, nZ0, nZ1]) <;> exact hr9.1) hja (JobOK.fr (K := []) (S := [0]) hr9.2.2.2.1 hja (by repeat (first | exact Fr.rf | assumption | refine Fr.aJ g ?_ (by decide) | refine Fr.aI g ?_ (by decide) | refine Fr.sI g ?_ (by decide) | refine Fr.sJ g ?_ (by decide))) (by decide)) (HeE.fr (jx := jx) (K := []) (S := [0]) hr9.2.1.1.2.2.1 (by repeat (first | exact Fr.rf | assumption | refine Fr.aJ g ?_ (by decide) | refine Fr.aI g ?_ (by decide) | refine Fr.sI g ?_ (by decide) | refine Fr.sJ g ?_ (by decide))) (by decide) (by decide)) (MkI.fr (rm := rm) (K := []) (S := [0]) hr9.2.1.1.2.2.2 (by repeat (first | exact Fr.rf | assumption | refine Fr.aJ g ?_ (by decide) | refine Fr.aI g ?_ (by decide) | refine Fr.sI g ?_ (by decide) | refine Fr.sJ g ?_ (by decide))) (by decide)) (by (try simp only [rII, rIJ, rIP, rJJ, rJI, rJP, rPP, rPI, rPJ, g1, g2, g3, g4, g5, g6, g7, g8, Nat.reduceEqDiff, Nat.reduceAdd, false_and, and_false, true_and, and_true, reduceIte, nZ0, nZ1]) <;> (first | omega | with_reducible assumption | (unfold rng; omega) | (unfold rng; (repeat' split) <;> omega))) (fun σ9 r10 rσ9 fc p4 => ?_)
      have fσ9 : Fr ra jx rm [37, 38, 39, 40, 41, 42, 43, 44, 45, 46, 47, 48, 49, 51, 52, 53, 54, 55, 56, 57, 58, 60, 61, 62, 63, 64, 65, 68, 69, 70, 71, 72, 73, 74, 75, 76, 77, 78, 86, 87, 88, 89] [0, 31, 33, 36, 50, 66, 67, 79, 80, 90, 91, 93, 112] σ σ9 := Fr.tr (by refine Fr.sI g ?_ (by decide); exact fσ) (Fr.mor (fc) (by decide) (by decide))
      have p9 := p4
      have sσ9_30 := fσ9.2.1 30 (by decide)
      have sσ9_32 := fσ9.2.1 32 (by decide)
      have jσ9 := fσ9.2.2.1
      try simp only [forall_eq, rII, rIJ, rIP, rJJ, rJI, rJP, rPP, rPI, rPJ, g1, g2, g3, g4, g5, g6, g7, g8, Nat.reduceEqDiff, Nat.reduceAdd, false_and, and_false, true_and, and_true, reduceIte, nZ0, nZ1, sσ9_30.1, sσ9_30.2, sσ9_32.1, sσ9_32.2, fun a k => (jσ9 a k).1, fun a k => (jσ9 a k).2]
      unfold w_X16_fail__42
      try simp only [forall_eq, rII, rIJ, rIP, rJJ, rJI, rJP, rPP, rPI, rPJ, g1, g2, g3, g4, g5, g6, g7, g8, Nat.reduceEqDiff, Nat.reduceAdd, false_and, and_false, true_and, and_true, reduceIte, nZ0, nZ1, sσ9_30.1, sσ9_30.2, sσ9_32.1, sσ9_32.2, fun a k => (jσ9 a k).1, fun a k => (jσ9 a k).2]
      refine hQ _ _ ?_ ?_ ?_
      · exact rσ9
      · exact fσ9
      · first | exact Or.inl ⟨_, rfl⟩ | exact Or.inr ⟨p9, h30⟩
    · rename_i hc12
      skip
      unfold w_X16_fail__15
      try simp only [forall_eq, rII, rIJ, rIP, rJJ, rJI, rJP, rPP, rPI, rPJ, g1, g2, g3, g4, g5, g6, g7, g8, Nat.reduceEqDiff, Nat.reduceAdd, false_and, and_false, true_and, and_true, reduceIte, nZ0, nZ1]
      unfold w_X16_fail__20
      try simp only [forall_eq, rII, rIJ, rIP, rJJ, rJI, rJP, rPP, rPI, rPJ, g1, g2, g3, g4, g5, g6, g7, g8, Nat.reduceEqDiff, Nat.reduceAdd, false_and, and_false, true_and, and_true, reduceIte, nZ0, nZ1]
      try rw [if_neg (by decide)]
      unfold w_X16_fail__30
      try simp only [forall_eq, rII, rIJ, rIP, rJJ, rJI, rJP, rPP, rPI, rPJ, g1, g2, g3, g4, g5, g6, g7, g8, Nat.reduceEqDiff, Nat.reduceAdd, false_and, and_false, true_and, and_true, reduceIte, nZ0, nZ1]
      unfold w_X16_fail__42
      try simp only [forall_eq, rII, rIJ, rIP, rJJ, rJI, rJP, rPP, rPI, rPJ, g1, g2, g3, g4, g5, g6, g7, g8, Nat.reduceEqDiff, Nat.reduceAdd, false_and, and_false, true_and, and_true, reduceIte, nZ0, nZ1]
      refine hQ _ _ ?_ ?_ ?_
      · refine Rg.sI g ?_ (by simp only [rgS]; first | with_reducible exact nZ_rng _ | with_reducible exact nB_rng _ | with_reducible exact wr_rng _ | with_reducible exact i32any _ | (first | omega | with_reducible assumption | (unfold rng; omega) | (unfold rng; (repeat' split) <;> omega))); exact rσ
      · refine Fr.sI g ?_ (by decide); exact fσ
      · first | exact Or.inl ⟨_, rfl⟩ | exact Or.inr ⟨p9, h30⟩
set_option maxHeartbeats 4000000 in
theorem s2_X16_rescale {ra : Nat → Nat} {jx : Nat → Nat → Nat} {rm : Nat} {ja : Nat} (g : Geo ra jx rm) {σ : Sg} {v1 : Int} (rσ : Rg ra jx rm σ) (hja : ja = ra 15 ∨ ja = ra 16) (hR : gI σ rm 30 ≠ 0 → gP σ rm 17 = some ja ∧ ((ThE ra rm σ ∧ RecE ra jx rm ja σ ∧ HeE ra rm σ ∧ MkI ra jx ja σ) ∧ LcI ra rm σ ∧ (∀ i : Nat, i < 1100 → gI σ (ra 54) i ≤ gI σ rm 34)) ∧ 1 ≤ gI σ rm 33 ∧ JobOK jx ja σ ∧ 1 ≤ gI σ rm 36 ∧ LyI ra jx rm ja σ) (b1 : -2147483648 ≤ v1 ∧ v1 ≤ 2147483647) {Q : Sg → Int → Prop} {X : Sg → String → Prop} (hQ : ∀ (σ' : Sg) (r : Int), Rg ra jx rm σ' → Fr ra jx rm [37, 38, 39, 40, 41, 42, 43, 44, 45, 46, 47, 48, 49, 51, 52, 53, 54, 55, 56, 57, 58, 60, 61, 62, 63, 64, 65, 68, 69, 70, 71, 72, 73, 74, 75, 76, 77, 78, 86, 87, 88, 89] [0, 31, 33, 36, 50, 66, 67, 79, 80, 90, 91, 93, 112] σ σ' → ((∃ c, σ' = pI σ rm 0 c) ∨ ((gP σ' rm 17 = some ja ∧ ((ThE ra rm σ' ∧ RecE ra jx rm ja σ' ∧ HeE ra rm σ' ∧ MkI ra jx ja σ') ∧ LcI ra rm σ' ∧ (∀ i : Nat, i < 1100 → gI σ' (ra 54) i ≤ gI σ' rm 34)) ∧ 1 ≤ gI σ' rm 33 ∧ JobOK jx ja σ' ∧ 1 ≤ gI σ' rm 36 ∧ LyI ra jx rm ja σ') ∧ gI σ rm 30 ≠ 0)) → Q σ' r) : wp_X16_rescale ra jx rm v1 σ Q X := by
  obtain ⟨g1, g2, g3, g4, g5, g6, g7, g8⟩ := id g
  have fσ : Fr ra jx rm [37, 38, 39, 40, 41, 42, 43, 44, 45, 46, 47, 48, 49, 51, 52, 53, 54, 55, 56, 57, 58, 60, 61, 62, 63, 64, 65, 68, 69, 70, 71, 72, 73, 74, 75, 76, 77, 78, 86, 87, 88, 89] [0, 31, 33, 36, 50, 66, 67, 79, 80, 90, 91, 93, 112] σ σ := Fr.rf
  unfold wp_X16_rescale
  unfold w_X16_rescale_0
  try simp only [forall_eq, rII, rIJ, rIP, rJJ, rJI, rJP, rPP, rPI, rPJ, g1, g2, g3, g4, g5, g6, g7, g8, Nat.reduceEqDiff, Nat.reduceAdd, false_and, and_false, true_and, and_true, reduceIte, nZ0, nZ1]
  have q1 := rσ.2.1 30; simp only [rgS] at q1
  split
  · rename_i hc5
    skip
    unfold w_X16_rescale_15
    try simp only [forall_eq, rII, rIJ, rIP, rJJ, rJI, rJP, rPP, rPI, rPJ, g1, g2, g3, g4, g5, g6, g7, g8, Nat.reduceEqDiff, Nat.reduceAdd, false_and, and_false, true_and, and_true, reduceIte, nZ0, nZ1]
    unfold w_X16_rescale_36
    try simp only [forall_eq, rII, rIJ, rIP, rJJ, rJI, rJP, rPP, rPI, rPJ, g1, g2, g3, g4, g5, g6, g7, g8, Nat.reduceEqDiff, Nat.reduceAdd, false_and, and_false, true_and, and_true, reduceIte, nZ0, nZ1]
    try rw [if_neg (by decide)]
    unfold w_X16_rescale_46
    try simp only [forall_eq, rII, rIJ, rIP, rJJ, rJI, rJP, rPP, rPI, rPJ, g1, g2, g3, g4, g5, g6, g7, g8, Nat.reduceEqDiff, Nat.reduceAdd, false_and, and_false, true_and, and_true, reduceIte, nZ0, nZ1]
    unfold w_X16_rescale_55
    try simp only [forall_eq, rII, rIJ, rIP, rJJ, rJI, rJP, rPP, rPI, rPJ, g1, g2, g3, g4, g5, g6, g7, g8, Nat.reduceEqDiff, Nat.reduceAdd, false_and, and_false, true_and, and_true, reduceIte, nZ0, nZ1]
    refine hQ _ _ ?_ ?_ ?_
    · refine Rg.sI g ?_ (by simp only [rgS]; first | with_reducible exact nZ_rng _ | with_reducible exact nB_rng _ | with_reducible exact wr_rng _ | with_reducible exact i32any _ | (first | omega | with_reducible assumption | (unfold rng; omega) | (unfold rng; (repeat' split) <;> omega))); exact rσ
    · refine Fr.sI g ?_ (by decide); exact fσ
    · first | exact Or.inl ⟨_, rfl⟩ | exact Or.inr ⟨p9, h30⟩
  · rename_i hc5
    skip
    unfold w_X16_rescale_8
    try simp only [forall_eq, rII, rIJ, rIP, rJJ, rJI, rJP, rPP, rPI, rPJ, g1, g2, g3, g4, g5, g6, g7, g8, Nat.reduceEqDiff, Nat.reduceAdd, false_and, and_false, true_and, and_true, reduceIte, nZ0, nZ1]
    have q2 := rσ.2.1 32; simp only [rgS] at q2
    split
    · rename_i hc12
      skip
      unfold w_X16_rescale_19
      try simp only [forall_eq, rII, rIJ, rIP, rJJ, rJI, rJP, rPP, rPI, rPJ, g1, g2, g3, g4, g5, g6, g7, g8, Nat.reduceEqDiff, Nat.reduceAdd, false_and, and_false, true_and, and_true, reduceIte, nZ0, nZ1]
      refine s_X16_within g rσ (fun r13 p3 => ?_)
      obtain ⟨p3, p3b⟩ := p3
      have p3w : r13 = 1 → 1 ≤ v1 ∧ v1 ≤ 4 := fun e => win (by (first | omega | with_reducible assumption | (unfold rng; omega) | (unfold rng; (repeat' split) <;> omega))) (p3b e)
      try simp only [forall_eq, rII, rIJ, rIP, rJJ, rJI, rJP, rPP, rPI, rPJ, g1, g2, g3, g4, g5, g6, g7, g8, Nat.reduceEqDiff, Nat.reduceAdd, false_and, and_false, true_and, and_true, reduceIte, nZ0, nZ1]
      split
      · rename_i hc28
        skip
        unfold w_X16_rescale_35
        try simp only [forall_eq, rII, rIJ, rIP, rJJ, rJI, rJP, rPP, rPI, rPJ, g1, g2, g3, g4, g5, g6, g7, g8, Nat.reduceEqDiff, Nat.reduceAdd, false_and, and_false, true_and, and_true, reduceIte, nZ0, nZ1]
        unfold w_X16_rescale_36
        try simp only [forall_eq, rII, rIJ, rIP, rJJ, rJI, rJP, rPP, rPI, rPJ, g1, g2, g3, g4, g5, g6, g7, g8, Nat.reduceEqDiff, Nat.reduceAdd, false_and, and_false, true_and, and_true, reduceIte, nZ0, nZ1]
        try rw [if_pos (by decide)]
        unfold w_X16_rescale_50
        try simp only [forall_eq, rII, rIJ, rIP, rJJ, rJI, rJP, rPP, rPI, rPJ, g1, g2, g3, g4, g5, g6, g7, g8, Nat.reduceEqDiff, Nat.reduceAdd, false_and, and_false, true_and, and_true, reduceIte, nZ0, nZ1]
        have h30 : gI σ rm 30 ≠ 0 := by assumption
        have hr9 := hR (by assumption)
        have h33 := rσ.2.1 33; simp only [rgS] at h33
        have h33b := hr9.2.2.1
        refine s_X16_beginAgain g (by refine Rg.sI g ?_ (by simp only [rgS]; first | with_reducible exact nZ_rng _ | with_reducible exact nB_rng _ | with_reducible exact wr_rng _ | with_reducible exact i32any _ | (first | omega | with_reducible assumption | (unfold rng; omega) | (unfold rng; (repeat' split) <;> omega))); exact rσ) (by (try simp only [rII, rIJ, rIP, rJJ, rJI, rJP, rPP, rPI, rPJ, g1, g2, g3, g4, g5, g6, g7, g8, Nat.reduceEqDiff, Nat.reduceAdd, false_and, and_false, true_and, and_true, reduceIte, nZ0, nZ1]) <;> exact hr9.1) hja (JobOK.fr (K := []) (S := [0]) hr9.2.2.2.1 hja (by repeat (first | exact Fr.rf | assumption | refine Fr.aJ g ?_ (by decide) | refine Fr.aI g ?_ (by decide) | refine Fr.sI g ?_ (by decide) | refine Fr.sJ g ?_ (by decide))) (by decide)) (HeE.fr (jx := jx) (K := []) (S := [0]) hr9.2.1.1.2.2.1 (by repeat (first | exact Fr.rf | assumption | refine Fr.aJ g ?_ (by decide) | refine Fr.aI g ?_ (by decide) | refine Fr.sI g ?_ (by decide) | refine Fr.sJ g ?_ (by decide))) (by decide) (by decide)) (MkI.fr (rm := rm) (K := []) (S := [0]) hr9.2.1.1.2.2.2 (by repeat (first | exact Fr.rf | assumption | refine Fr.aJ g ?_ (by decide) | refine Fr.aI g ?_ (by decide) | refine Fr.sI g ?_ (by decide) | refine Fr.sJ g ?_ (by decide))) (by decide)) (by (try simp only [rII, rIJ, rIP, rJJ, rJI, rJP, rPP, rPI, rPJ, g1, g2, g3, g4, g5, g6, g7, g8, Nat.reduceEqDiff, Nat.reduceAdd, false_and, and_false, true_and, and_true, reduceIte, nZ0, nZ1]) <;> (first | omega | with_reducible assumption | (unfold rng; omega) | (unfold rng; (repeat' split) <;> omega))) (fun σ15 r16 rσ15 fc p4 => ?_)
        have fσ15 : Fr ra jx rm [37, 38, 39, 40, 41, 42, 43, 44, 45, 46, 47, 48, 49, 51, 52, 53, 54, 55, 56, 57, 58, 60, 61, 62, 63, 64, 65, 68, 69, 70, 71, 72, 73, 74, 75, 76, 77, 78, 86, 87, 88, 89] [0, 31, 33, 36, 50, 66, 67, 79, 80, 90, 91, 93, 112] σ σ15 := Fr.tr (by refine Fr.sI g ?_ (by decide); exact fσ) (Fr.mor (fc) (by decide) (by decide))
        have p9 := p4
        have sσ15_30 := fσ15.2.1 30 (by decide)
        have sσ15_32 := fσ15.2.1 32 (by decide)
        have jσ15 := fσ15.2.2.1
        try simp only [forall_eq, rII, rIJ, rIP, rJJ, rJI, rJP, rPP, rPI, rPJ, g1, g2, g3, g4, g5, g6, g7, g8, Nat.reduceEqDiff, Nat.reduceAdd, false_and, and_false, true_and, and_true, reduceIte, nZ0, nZ1, sσ15_30.1, sσ15_30.2, sσ15_32.1, sσ15_32.2, fun a k => (jσ15 a k).1, fun a k => (jσ15 a k).2]
        unfold w_X16_rescale_55
        try simp only [forall_eq, rII, rIJ, rIP, rJJ, rJI, rJP, rPP, rPI, rPJ, g1, g2, g3, g4, g5, g6, g7, g8, Nat.reduceEqDiff, Nat.reduceAdd, false_and, and_false, true_and, and_true, reduceIte, nZ0, nZ1, sσ15_30.1, sσ15_30.2, sσ15_32.1, sσ15_32.2, fun a k => (jσ15 a k).1, fun a k => (jσ15 a k).2]
        refine hQ _ _ ?_ ?_ ?_
        · exact rσ15
        · exact fσ15
        · first | exact Or.inl ⟨_, rfl⟩ | exact Or.inr ⟨p9, h30⟩
      · rename_i hc28
        skip
        unfold w_X16_rescale_31
        try simp only [forall_eq, rII, rIJ, rIP, rJJ, rJI, rJP, rPP, rPI, rPJ, g1, g2, g3, g4, g5, g6, g7, g8, Nat.reduceEqDiff, Nat.reduceAdd, false_and, and_false, true_and, and_true, reduceIte, nZ0, nZ1]
        unfold w_X16_rescale_36
        try simp only [forall_eq, rII, rIJ, rIP, rJJ, rJI, rJP, rPP, rPI, rPJ, g1, g2, g3, g4, g5, g6, g7, g8, Nat.reduceEqDiff, Nat.reduceAdd, false_and, and_false, true_and, and_true, reduceIte, nZ0, nZ1]
        try rw [if_neg (by decide)]
        unfold w_X16_rescale_46
        try simp only [forall_eq, rII, rIJ, rIP, rJJ, rJI, rJP, rPP, rPI, rPJ, g1, g2, g3, g4, g5, g6, g7, g8, Nat.reduceEqDiff, Nat.reduceAdd, false_and, and_false, true_and, and_true, reduceIte, nZ0, nZ1]
        unfold w_X16_rescale_55
        try simp only [forall_eq, rII, rIJ, rIP, rJJ, rJI, rJP, rPP, rPI, rPJ, g1, g2, g3, g4, g5, g6, g7, g8, Nat.reduceEqDiff, Nat.reduceAdd, false_and, and_false, true_and, and_true, reduceIte, nZ0, nZ1]
        refine hQ _ _ ?_ ?_ ?_
        · refine Rg.sI g ?_ (by simp only [rgS]; first | with_reducible exact nZ_rng _ | with_reducible exact nB_rng _ | with_reducible exact wr_rng _ | with_reducible exact i32any _ | (first | omega | with_reducible assumption | (unfold rng; omega) | (unfold rng; (repeat' split) <;> omega))); exact rσ
        · refine Fr.sI g ?_ (by decide); exact fσ
        · first | exact Or.inl ⟨_, rfl⟩ | exact Or.inr ⟨p9, h30⟩
    · rename_i hc12
      skip
      unfold w_X16_rescale_15
      try simp only [forall_eq, rII, rIJ, rIP, rJJ, rJI, rJP, rPP, rPI, rPJ, g1, g2, g3, g4, g5, g6, g7, g8, Nat.reduceEqDiff, Nat.reduceAdd, false_and, and_false, true_and, and_true, reduceIte, nZ0, nZ1]
      unfold w_X16_rescale_36
      try simp only [forall_eq, rII, rIJ, rIP, rJJ, rJI, rJP, rPP, rPI, rPJ, g1, g2, g3, g4, g5, g6, g7, g8, Nat.reduceEqDiff, Nat.reduceAdd, false_and, and_false, true_and, and_true, reduceIte, nZ0, nZ1]
      try rw [if_neg (by decide)]
      unfold w_X16_rescale_46
      try simp only [forall_eq, rII, rIJ, rIP, rJJ, rJI, rJP, rPP, rPI, rPJ, g1, g2, g3, g4, g5, g6, g7, g8, Nat.reduceEqDiff, Nat.reduceAdd, false_and, and_false, true_and, and_true, reduceIte, nZ0, nZ1]
      unfold w_X16_rescale_55
      try simp only [forall_eq, rII, rIJ, rIP, rJJ, rJI, rJP, rPP, rPI, rPJ, g1, g2, g3, g4, g5, g6, g7, g8, Nat.reduceEqDiff, Nat.reduceAdd, false_and, and_false, true_and, and_true, reduceIte, nZ0, nZ1]
      refine hQ _ _ ?_ ?_ ?_
      · refine Rg.sI g ?_ (by simp only [rgS]; first | with_reducible exact nZ_rng _ | with_reducible exact nB_rng _ | with_reducible exact wr_rng _ | with_reducible exact i32any _ | (first | omega | with_reducible assumption | (unfold rng; omega) | (unfold rng; (repeat' split) <;> omega))); exact rσ
      · refine Fr.sI g ?_ (by decide); exact fσ
      · first | exact Or.inl ⟨_, rfl⟩ | exact Or.inr ⟨p9, h30⟩
set_option maxHeartbeats 4000000 in
theorem s2_X16_reopen {ra : Nat → Nat} {jx : Nat → Nat → Nat} {rm : Nat} {ja : Nat} (g : Geo ra jx rm) {σ : Sg} (rσ : Rg ra jx rm σ) (hja : ja = ra 15 ∨ ja = ra 16) (hR : gI σ rm 30 ≠ 0 → gP σ rm 17 = some ja ∧ ((ThE ra rm σ ∧ RecE ra jx rm ja σ ∧ HeE ra rm σ ∧ MkI ra jx ja σ) ∧ LcI ra rm σ ∧ (∀ i : Nat, i < 1100 → gI σ (ra 54) i ≤ gI σ rm 34)) ∧ 1 ≤ gI σ rm 33 ∧ JobOK jx ja σ ∧ 1 ≤ gI σ rm 36 ∧ LyI ra jx rm ja σ) (hD : gI σ rm 32 ≠ 0 → gI σ rm 30 ≠ 0) {Q : Sg → Int → Prop} {X : Sg → String → Prop} (hQ : ∀ (σ' : Sg) (r : Int), Rg ra jx rm σ' → Fr ra jx rm [37, 38, 39, 40, 41, 42, 43, 44, 45, 46, 47, 48, 49, 51, 52, 53, 54, 55, 56, 57, 58, 60, 61, 62, 63, 64, 65, 68, 69, 70, 71, 72, 73, 74, 75, 76, 77, 78, 86, 87, 88, 89] [0, 31, 32, 33, 36, 50, 66, 67, 79, 80, 90, 91, 93, 96, 112] σ σ' → ((∃ c, σ' = pI σ rm 0 c) ∨ ((gP σ' rm 17 = some ja ∧ ((ThE ra rm σ' ∧ RecE ra jx rm ja σ' ∧ HeE ra rm σ' ∧ MkI ra jx ja σ') ∧ LcI ra rm σ' ∧ (∀ i : Nat, i < 1100 → gI σ' (ra 54) i ≤ gI σ' rm 34)) ∧ 1 ≤ gI σ' rm 33 ∧ JobOK jx ja σ' ∧ 1 ≤ gI σ' rm 36 ∧ LyI ra jx rm ja σ') ∧ gI σ rm 30 ≠ 0)) → Q σ' r) : wp_X16_reopen ra jx rm σ Q X := by
  obtain ⟨g1, g2, g3, g4, g5, g6, g7, g8⟩ := id g
  have fσ : Fr ra jx rm [37, 38, 39, 40, 41, 42, 43, 44, 45, 46, 47, 48, 49, 51, 52, 53, 54, 55, 56, 57, 58, 60, 61, 62, 63, 64, 65, 68, 69, 70, 71, 72, 73, 74, 75, 76, 77, 78, 86, 87, 88, 89] [0, 31, 32, 33, 36, 50, 66, 67, 79, 80, 90, 91, 93, 96, 112] σ σ := Fr.rf
  unfold wp_X16_reopen
  unfold w_X16_reopen_0
  try simp only [forall_eq, rII, rIJ, rIP, rJJ, rJI, rJP, rPP, rPI, rPJ, g1, g2, g3, g4, g5, g6, g7, g8, Nat.reduceEqDiff, Nat.reduceAdd, false_and, and_false, true_and, and_true, reduceIte, nZ0, nZ1]
  have q1 := rσ.2.1 32; simp only [rgS] at q1
  split
  · rename_i hc5
    skip
    unfold w_X16_reopen_12
    try simp only [forall_eq, rII, rIJ, rIP, rJJ, rJI, rJP, rPP, rPI, rPJ, g1, g2, g3, g4, g5, g6, g7, g8, Nat.reduceEqDiff, Nat.reduceAdd, false_and, and_false, true_and, and_true, reduceIte, nZ0, nZ1]
    unfold w_X16_reopen_13
    try simp only [forall_eq, rII, rIJ, rIP, rJJ, rJI, rJP, rPP, rPI, rPJ, g1, g2, g3, g4, g5, g6, g7, g8, Nat.reduceEqDiff, Nat.reduceAdd, false_and, and_false, true_and, and_true, reduceIte, nZ0, nZ1]
    try rw [if_pos (by decide)]
    unfold w_X16_reopen_25
    try simp only [forall_eq, rII, rIJ, rIP, rJJ, rJI, rJP, rPP, rPI, rPJ, g1, g2, g3, g4, g5, g6, g7, g8, Nat.reduceEqDiff, Nat.reduceAdd, false_and, and_false, true_and, and_true, reduceIte, nZ0, nZ1]
    have h30 : gI σ rm 30 ≠ 0 := hD (by assumption)
    have hr9 := hR (hD (by assumption))
    have h33 := rσ.2.1 33; simp only [rgS] at h33
    have h33b := hr9.2.2.1
    have q2 := rσ.2.1 33; simp only [rgS] at q2
    refine s_X16_beginAgain g (by refine Rg.sI g ?_ (by simp only [rgS]; first | with_reducible exact nZ_rng _ | with_reducible exact nB_rng _ | with_reducible exact wr_rng _ | with_reducible exact i32any _ | (first | omega | with_reducible assumption | (unfold rng; omega) | (unfold rng; (repeat' split) <;> omega))); refine Rg.sI g ?_ (by simp only [rgS]; first | with_reducible exact nZ_rng _ | with_reducible exact nB_rng _ | with_reducible exact wr_rng _ | with_reducible exact i32any _ | (first | omega | with_reducible assumption | (unfold rng; omega) | (unfold rng; (repeat' split) <;> omega))); refine Rg.sI g ?_ (by simp only [rgS]; first | with_reducible exact nZ_rng _ | with_reducible exact nB_rng _ | with_reducible exact wr_rng _ | with_reducible exact i32any _ | (first | omega | with_reducible assumption | (unfold rng; omega) | (unfold rng; (repeat' split) <;> omega))); exact rσ) (by (try simp only [rII, rIJ, rIP, rJJ, rJI, rJP, rPP, rPI, rPJ, g1, g2, g3, g4, g5, g6, g7, g8, Nat.reduceEqDiff, Nat.reduceAdd, false_and, and_false, true_and, and_true, reduceIte, nZ0, nZ1]) <;> exact hr9.1) hja (JobOK.fr (K := []) (S := [0, 32, 96]) hr9.2.2.2.1 hja (by repeat (first | exact Fr.rf | assumption | refine Fr.aJ g ?_ (by decide) | refine Fr.aI g ?_ (by decide) | refine Fr.sI g ?_ (by decide) | refine Fr.sJ g ?_ (by decide))) (by decide)) (HeE.fr (jx := jx) (K := []) (S := [0, 32, 96]) hr9.2.1.1.2.2.1 (by repeat (first | exact Fr.rf | assumption | refine Fr.aJ g ?_ (by decide) | refine Fr.aI g ?_ (by decide) | refine Fr.sI g ?_ (by decide) | refine Fr.sJ g ?_ (by decide))) (by decide) (by decide)) (MkI.fr (rm := rm) (K := []) (S := [0, 32, 96]) hr9.2.1.1.2.2.2 (by repeat (first | exact Fr.rf | assumption | refine Fr.aJ g ?_ (by decide) | refine Fr.aI g ?_ (by decide) | refine Fr.sI g ?_ (by decide) | refine Fr.sJ g ?_ (by decide))) (by decide)) (by (try simp only [rII, rIJ, rIP, rJJ, rJI, rJP, rPP, rPI, rPJ, g1, g2, g3, g4, g5, g6, g7, g8, Nat.reduceEqDiff, Nat.reduceAdd, false_and, and_false, true_and, and_true, reduceIte, nZ0, nZ1]) <;> (first | omega | with_reducible assumption | (unfold rng; omega) | (unfold rng; (repeat' split) <;> omega))) (fun σ14 r15 rσ14 fc p3 => ?_)
    have fσ14 : Fr ra jx rm [37, 38, 39, 40, 41, 42, 43, 44, 45, 46, 47, 48, 49, 51, 52, 53, 54, 55, 56, 57, 58, 60, 61, 62, 63, 64, 65, 68, 69, 70, 71, 72, 73, 74, 75, 76, 77, 78, 86, 87, 88, 89] [0, 31, 32, 33, 36, 50, 66, 67, 79, 80, 90, 91, 93, 96, 112] σ σ14 := Fr.tr (by refine Fr.sI g ?_ (by decide); refine Fr.sI g ?_ (by decide); refine Fr.sI g ?_ (by decide); exact fσ) (Fr.mor (fc) (by decide) (by decide))
    have p9 := p3
    have jσ14 := fσ14.2.2.1
    try simp only [forall_eq, rII, rIJ, rIP, rJJ, rJI, rJP, rPP, rPI, rPJ, g1, g2, g3, g4, g5, g6, g7, g8, Nat.reduceEqDiff, Nat.reduceAdd, false_and, and_false, true_and, and_true, reduceIte, nZ0, nZ1, fun a k => (jσ14 a k).1, fun a k => (jσ14 a k).2]
    refine hQ _ _ ?_ ?_ ?_
    · exact rσ14
    · exact fσ14
    · first | exact Or.inl ⟨_, rfl⟩ | exact Or.inr ⟨p9, h30⟩
  · rename_i hc5
    skip
    unfold w_X16_reopen_8
    try simp only [forall_eq, rII, rIJ, rIP, rJJ, rJI, rJP, rPP, rPI, rPJ, g1, g2, g3, g4, g5, g6, g7, g8, Nat.reduceEqDiff, Nat.reduceAdd, false_and, and_false, true_and, and_true, reduceIte, nZ0, nZ1]
    unfold w_X16_reopen_13
    try simp only [forall_eq, rII, rIJ, rIP, rJJ, rJI, rJP, rPP, rPI, rPJ, g1, g2, g3, g4, g5, g6, g7, g8, Nat.reduceEqDiff, Nat.reduceAdd, false_and, and_false, true_and, and_true, reduceIte, nZ0, nZ1]
    try rw [if_neg (by decide)]
    unfold w_X16_reopen_23
    try simp only [forall_eq, rII, rIJ, rIP, rJJ, rJI, rJP, rPP, rPI, rPJ, g1, g2, g3, g4, g5, g6, g7, g8, Nat.reduceEqDiff, Nat.reduceAdd, false_and, and_false, true_and, and_true, reduceIte, nZ0, nZ1]
    refine hQ _ _ ?_ ?_ ?_
    · refine Rg.sI g ?_ (by simp only [rgS]; first | with_reducible exact nZ_rng _ | with_reducible exact nB_rng _ | with_reducible exact wr_rng _ | with_reducible exact i32any _ | (first | omega | with_reducible assumption | (unfold rng; omega) | (unfold rng; (repeat' split) <;> omega))); exact rσ
    · refine Fr.sI g ?_ (by decide); exact fσ
    · first | exact Or.inl ⟨_, rfl⟩ | exact Or.inr ⟨p9, h30⟩
set_option maxHeartbeats 4000000 in
theorem s2_X16_turn {ra : Nat → Nat} {jx : Nat → Nat → Nat} {rm : Nat} {ja : Nat} (g : Geo ra jx rm) {σ : Sg} {v1 : Int} (rσ : Rg ra jx rm σ) (hja : ja = ra 15 ∨ ja = ra 16) (hR : gI σ rm 30 ≠ 0 → gP σ rm 17 = some ja ∧ ((ThE ra rm σ ∧ RecE ra jx rm ja σ ∧ HeE ra rm σ ∧ MkI ra jx ja σ) ∧ LcI ra rm σ ∧ (∀ i : Nat, i < 1100 → gI σ (ra 54) i ≤ gI σ rm 34)) ∧ 1 ≤ gI σ rm 33 ∧ JobOK jx ja σ ∧ 1 ≤ gI σ rm 36 ∧ LyI ra jx rm ja σ) (b1 : -2147483648 ≤ v1 ∧ v1 ≤ 2147483647) {Q : Sg → Int → Prop} {X : Sg → String → Prop} (hQ : ∀ (σ' : Sg) (r : Int), Rg ra jx rm σ' → Fr ra jx rm [20, 26, 40, 41, 42, 43, 44, 45, 46, 47, 48, 49, 54, 55, 56, 57, 58, 59, 60, 61, 62, 63, 64, 65, 68, 69, 70, 71, 72, 73, 74, 75, 76, 77, 78, 81, 82, 83, 84, 85, 86, 87, 88, 89, 97, 98, 99, 100, 101, 102, 103, 104, 105, 106, 107, 108, 109] [0, 21, 27, 31, 32, 35, 66, 67, 79, 80, 90, 91, 92, 93, 96, 110, 111, 113] σ σ' → ((gI σ rm 30 ≠ 0 → (ThE ra rm σ' ∧ RecE ra jx rm ja σ' ∧ HeE ra rm σ' ∧ MkI ra jx ja σ') ∧ LcI ra rm σ' ∧ (∀ i : Nat, i < 1100 → gI σ' (ra 54) i ≤ gI σ rm 34)) ∧ (gI σ rm 30 = 0 → ∃ c, σ' = pI σ rm 0 c)) → Q σ' r) : wp_X16_turn ra jx rm v1 σ Q X := by
  obtain ⟨g1, g2, g3, g4, g5, g6, g7, g8⟩ := id g
  have fσ : Fr ra jx rm [20, 26, 40, 41, 42, 43, 44, 45, 46, 47, 48, 49, 54, 55, 56, 57, 58, 59, 60, 61, 62, 63, 64, 65, 68, 69, 70, 71, 72, 73, 74, 75, 76, 77, 78, 81, 82, 83, 84, 85, 86, 87, 88, 89, 97, 98, 99, 100, 101, 102, 103, 104, 105, 106, 107, 108, 109] [0, 21, 27, 31, 32, 35, 66, 67, 79, 80, 90, 91, 92, 93, 96, 110, 111, 113] σ σ := Fr.rf
  unfold wp_X16_turn
  unfold w_X16_turn_0
  try simp only [forall_eq, rII, rIJ, rIP, rJJ, rJI, rJP, rPP, rPI, rPJ, g1, g2, g3, g4, g5, g6, g7, g8, Nat.reduceEqDiff, Nat.reduceAdd, false_and, and_false, true_and, and_true, reduceIte, nZ0, nZ1]
  have q1 := rσ.2.1 30; simp only [rgS] at q1
  split
  · rename_i hc5
    skip
    unfold w_X16_turn_15
    try simp only [forall_eq, rII, rIJ, rIP, rJJ, rJI, rJP, rPP, rPI, rPJ, g1, g2, g3, g4, g5, g6, g7, g8, Nat.reduceEqDiff, Nat.reduceAdd, false_and, and_false, true_and, and_true, reduceIte, nZ0, nZ1]
    unfold w_X16_turn_36
    try simp only [forall_eq, rII, rIJ, rIP, rJJ, rJI, rJP, rPP, rPI, rPJ, g1, g2, g3, g4, g5, g6, g7, g8, Nat.reduceEqDiff, Nat.reduceAdd, false_and, and_false, true_and, and_true, reduceIte, nZ0, nZ1]
    have q2 := rσ.2.1 34; simp only [rgS] at q2
    have L43 : ∀ (fu43 : Nat) (τ43 : Sg) (v2 : Int) (v3 : Int), Rg ra jx rm τ43 → Fr ra jx rm [20, 26, 40, 41, 42, 43, 44, 45, 46, 47, 48, 49, 54, 55, 56, 57, 58, 59, 60, 61, 62, 63, 64, 65, 68, 69, 70, 71, 72, 73, 74, 75, 76, 77, 78, 81, 82, 83, 84, 85, 86, 87, 88, 89, 97, 98, 99, 100, 101, 102, 103, 104, 105, 106, 107, 108, 109] [0, 21, 27, 31, 32, 35, 66, 67, 79, 80, 90, 91, 92, 93, 96, 110, 111, 113] σ τ43 → ((0 ≤ v3 ∧ 0 ≤ v2 ∧ v2 ≤ v3 ∧ (gI τ43 rm 0 = 0 → gI σ rm 30 ≠ 0 ∧ 1 ≤ v1 ∧ v1 ≤ 5000) ∧ (gI σ rm 30 ≠ 0 → (ThE ra rm τ43 ∧ RecE ra jx rm ja τ43 ∧ HeE ra rm τ43 ∧ MkI ra jx ja τ43) ∧ LcI ra rm τ43 ∧ (∀ i : Nat, i < 1100 → gI τ43 (ra 54) i ≤ gI σ rm 34))) ∧ (gI σ rm 30 = 0 → ∃ c, τ43 = pI σ rm 0 c)) → ((v1 - v3).toNat) < fu43 → wl_X16_turn_43 ra jx rm Q X fu43 τ43 v1 v2 v3 := by
      intro fu43
      induction fu43 with
      | zero => intro τ43 _ _ _ _ _ h9; omega
      | succ fu43 ih43 =>
        intro τ43 v2 v3 rτ43 fτ43 hi43 hm43
        unfold wl_X16_turn_43
        have sτ43_30 := fτ43.2.1 30 (by decide)
        have sτ43_33 := fτ43.2.1 33 (by decide)
        have sτ43_34 := fτ43.2.1 34 (by decide)
        have sτ43_36 := fτ43.2.1 36 (by decide)
        have sτ43_50 := fτ43.2.1 50 (by decide)
        have jτ43 := fτ43.2.2.1
        unfold w_X16_turn_43
        try simp only [forall_eq, rII, rIJ, rIP, rJJ, rJI, rJP, rPP, rPI, rPJ, g1, g2, g3, g4, g5, g6, g7, g8, Nat.reduceEqDiff, Nat.reduceAdd, false_and, and_false, true_and, and_true, reduceIte, nZ0, nZ1, sτ43_30.1, sτ43_30.2, sτ43_33.1, sτ43_33.2, sτ43_34.1, sτ43_34.2, sτ43_36.1, sτ43_36.2, sτ43_50.1, sτ43_50.2, fun a k => (jτ43 a k).1, fun a k => (jτ43 a k).2]
        obtain ⟨hi43, hz43⟩ := hi43
        obtain ⟨k1, k2, k3, k4, k5⟩ := hi43
        split
        · rename_i hc45
          skip
          unfold w_X16_turn_82
          try simp only [forall_eq, rII, rIJ, rIP, rJJ, rJI, rJP, rPP, rPI, rPJ, g1, g2, g3, g4, g5, g6, g7, g8, Nat.reduceEqDiff, Nat.reduceAdd, false_and, and_false, true_and, and_true, reduceIte, nZ0, nZ1, sτ43_30.1, sτ43_30.2, sτ43_33.1, sτ43_33.2, sτ43_34.1, sτ43_34.2, sτ43_36.1, sτ43_36.2, sτ43_50.1, sτ43_50.2, fun a k => (jτ43 a k).1, fun a k => (jτ43 a k).2]
          refine hQ _ _ ?_ ?_ ?_
          · exact rτ43
          · exact fτ43
          · exact ⟨k5, hz43⟩
        · rename_i hc45
          skip
          unfold w_X16_turn_48
          try simp only [forall_eq, rII, rIJ, rIP, rJJ, rJI, rJP, rPP, rPI, rPJ, g1, g2, g3, g4, g5, g6, g7, g8, Nat.reduceEqDiff, Nat.reduceAdd, false_and, and_false, true_and, and_true, reduceIte, nZ0, nZ1, sτ43_30.1, sτ43_30.2, sτ43_33.1, sτ43_33.2, sτ43_34.1, sτ43_34.2, sτ43_36.1, sτ43_36.2, sτ43_50.1, sτ43_50.2, fun a k => (jτ43 a k).1, fun a k => (jτ43 a k).2]
          have q3 := rτ43.2.1 0; simp only [rgS] at q3
          split
          · rename_i hc52
            skip
            unfold w_X16_turn_82
            try simp only [forall_eq, rII, rIJ, rIP, rJJ, rJI, rJP, rPP, rPI, rPJ, g1, g2, g3, g4, g5, g6, g7, g8, Nat.reduceEqDiff, Nat.reduceAdd, false_and, and_false, true_and, and_true, reduceIte, nZ0, nZ1, sτ43_30.1, sτ43_30.2, sτ43_33.1, sτ43_33.2, sτ43_34.1, sτ43_34.2, sτ43_36.1, sτ43_36.2, sτ43_50.1, sτ43_50.2, fun a k => (jτ43 a k).1, fun a k => (jτ43 a k).2]
            refine hQ _ _ ?_ ?_ ?_
            · exact rτ43
            · exact fτ43
            · exact ⟨k5, hz43⟩
          · rename_i hc52
            skip
            unfold w_X16_turn_55
            try simp only [forall_eq, rII, rIJ, rIP, rJJ, rJI, rJP, rPP, rPI, rPJ, g1, g2, g3, g4, g5, g6, g7, g8, Nat.reduceEqDiff, Nat.reduceAdd, false_and, and_false, true_and, and_true, reduceIte, nZ0, nZ1, sτ43_30.1, sτ43_30.2, sτ43_33.1, sτ43_33.2, sτ43_34.1, sτ43_34.2, sτ43_36.1, sτ43_36.2, sτ43_50.1, sτ43_50.2, fun a k => (jτ43 a k).1, fun a k => (jτ43 a k).2]
            have q4 := rτ43.2.1 31; simp only [rgS] at q4
            split
            · rename_i hc59
              skip
              unfold w_X16_turn_82
              try simp only [forall_eq, rII, rIJ, rIP, rJJ, rJI, rJP, rPP, rPI, rPJ, g1, g2, g3, g4, g5, g6, g7, g8, Nat.reduceEqDiff, Nat.reduceAdd, false_and, and_false, true_and, and_true, reduceIte, nZ0, nZ1, sτ43_30.1, sτ43_30.2, sτ43_33.1, sτ43_33.2, sτ43_34.1, sτ43_34.2, sτ43_36.1, sτ43_36.2, sτ43_50.1, sτ43_50.2, fun a k => (jτ43 a k).1, fun a k => (jτ43 a k).2]
              refine hQ _ _ ?_ ?_ ?_
              · exact rτ43
              · exact fτ43
              · exact ⟨k5, hz43⟩
            · rename_i hc59
              skip
              unfold w_X16_turn_62
              try simp only [forall_eq, rII, rIJ, rIP, rJJ, rJI, rJP, rPP, rPI, rPJ, g1, g2, g3, g4, g5, g6, g7, g8, Nat.reduceEqDiff, Nat.reduceAdd, false_and, and_false, true_and, and_true, reduceIte, nZ0, nZ1, sτ43_30.1, sτ43_30.2, sτ43_33.1, sτ43_33.2, sτ43_34.1, sτ43_34.2, sτ43_36.1, sτ43_36.2, sτ43_50.1, sτ43_50.2, fun a k => (jτ43 a k).1, fun a k => (jτ43 a k).2]
              have q5 := rτ43.2.1 32; simp only [rgS] at q5
              split
              · rename_i hc66
                skip
                unfold w_X16_turn_82
                try simp only [forall_eq, rII, rIJ, rIP, rJJ, rJI, rJP, rPP, rPI, rPJ, g1, g2, g3, g4, g5, g6, g7, g8, Nat.reduceEqDiff, Nat.reduceAdd, false_and, and_false, true_and, and_true, reduceIte, nZ0, nZ1, sτ43_30.1, sτ43_30.2, sτ43_33.1, sτ43_33.2, sτ43_34.1, sτ43_34.2, sτ43_36.1, sτ43_36.2, sτ43_50.1, sτ43_50.2, fun a k => (jτ43 a k).1, fun a k => (jτ43 a k).2]
                refine hQ _ _ ?_ ?_ ?_
                · exact rτ43
                · exact fτ43
                · exact ⟨k5, hz43⟩
              · rename_i hc66
                skip
                unfold w_X16_turn_69
                try simp only [forall_eq, rII, rIJ, rIP, rJJ, rJI, rJP, rPP, rPI, rPJ, g1, g2, g3, g4, g5, g6, g7, g8, Nat.reduceEqDiff, Nat.reduceAdd, false_and, and_false, true_and, and_true, reduceIte, nZ0, nZ1, sτ43_30.1, sτ43_30.2, sτ43_33.1, sτ43_33.2, sτ43_34.1, sτ43_34.2, sτ43_36.1, sτ43_36.2, sτ43_50.1, sτ43_50.2, fun a k => (jτ43 a k).1, fun a k => (jτ43 a k).2]
                have k6 := k4 (by omega)
                have k7 := k5 k6.1
                have hr9 := hR k6.1
                refine s_X16_oneTurn g rτ43 (by rw [fτ43.2.2.2]; exact hr9.1) hja k7.1.2.1 k7.1.1 k7.1.2.2.1 k7.1.2.2.2 (by (try simp only [rII, rIJ, rIP, rJJ, rJI, rJP, rPP, rPI, rPJ, g1, g2, g3, g4, g5, g6, g7, g8, Nat.reduceEqDiff, Nat.reduceAdd, false_and, and_false, true_and, and_true, reduceIte, nZ0, nZ1, sτ43_30.1, sτ43_30.2, sτ43_33.1, sτ43_33.2, sτ43_34.1, sτ43_34.2, sτ43_36.1, sτ43_36.2, sτ43_50.1, sτ43_50.2, fun a k => (jτ43 a k).1, fun a k => (jτ43 a k).2]) <;> exact hr9.2.2.1) (JobOK.fr hr9.2.2.2.1 hja fτ43 (by decide)) (by (try simp only [rII, rIJ, rIP, rJJ, rJI, rJP, rPP, rPI, rPJ, g1, g2, g3, g4, g5, g6, g7, g8, Nat.reduceEqDiff, Nat.reduceAdd, false_and, and_false, true_and, and_true, reduceIte, nZ0, nZ1, sτ43_30.1, sτ43_30.2, sτ43_33.1, sτ43_33.2, sτ43_34.1, sτ43_34.2, sτ43_36.1, sτ43_36.2, sτ43_50.1, sτ43_50.2, fun a k => (jτ43 a k).1, fun a k => (jτ43 a k).2]) <;> exact hr9.2.2.2.2.1) (by intro i hi; (try simp only [rII, rIJ, rIP, rJJ, rJI, rJP, rPP, rPI, rPJ, g1, g2, g3, g4, g5, g6, g7, g8, Nat.reduceEqDiff, Nat.reduceAdd, false_and, and_false, true_and, and_true, reduceIte, nZ0, nZ1, sτ43_30.1, sτ43_30.2, sτ43_33.1, sτ43_33.2, sτ43_34.1, sτ43_34.2, sτ43_36.1, sτ43_36.2, sτ43_50.1, sτ43_50.2, fun a k => (jτ43 a k).1, fun a k => (jτ43 a k).2]) <;> exact k7.2.2 i hi) (LyI.fr hr9.2.2.2.2.2 hja fτ43 (by decide) (by decide)) k7.2.1 (fun σ12 r13 rσ12 fc p6 => ?_)
                have fσ12 : Fr ra jx rm [20, 26, 40, 41, 42, 43, 44, 45, 46, 47, 48, 49, 54, 55, 56, 57, 58, 59, 60, 61, 62, 63, 64, 65, 68, 69, 70, 71, 72, 73, 74, 75, 76, 77, 78, 81, 82, 83, 84, 85, 86, 87, 88, 89, 97, 98, 99, 100, 101, 102, 103, 104, 105, 106, 107, 108, 109] [0, 21, 27, 31, 32, 35, 66, 67, 79, 80, 90, 91, 92, 93, 96, 110, 111, 113] σ σ12 := Fr.tr fτ43 (Fr.mor (fc) (by decide) (by decide))
                have p9 := p6.1
                have p8 := p6.2
                simp only [(fτ43.2.1 34 (by decide)).1] at p9
                have q0 := (fc.2.1 0 (by decide)).1
                have sσ12_30 := fσ12.2.1 30 (by decide)
                have sσ12_33 := fσ12.2.1 33 (by decide)
                have sσ12_34 := fσ12.2.1 34 (by decide)
                have sσ12_36 := fσ12.2.1 36 (by decide)
                have sσ12_50 := fσ12.2.1 50 (by decide)
                have jσ12 := fσ12.2.2.1
                try simp only [forall_eq, rII, rIJ, rIP, rJJ, rJI, rJP, rPP, rPI, rPJ, g1, g2, g3, g4, g5, g6, g7, g8, Nat.reduceEqDiff, Nat.reduceAdd, false_and, and_false, true_and, and_true, reduceIte, nZ0, nZ1, sσ12_30.1, sσ12_30.2, sσ12_33.1, sσ12_33.2, sσ12_34.1, sσ12_34.2, sσ12_36.1, sσ12_36.2, sσ12_50.1, sσ12_50.2, fun a k => (jσ12 a k).1, fun a k => (jσ12 a k).2]
                refine ⟨by (first | omega | with_reducible assumption | (unfold rng; omega) | (unfold rng; (repeat' split) <;> omega)), ?_⟩
                refine ⟨by (first | omega | with_reducible assumption | (unfold rng; omega) | (unfold rng; (repeat' split) <;> omega)), ?_⟩
                refine ih43 _ _ _ ?_ ?_ ?_ ?_
                · exact rσ12
                · exact fσ12
                · refine ⟨?_, ?_⟩; exact (by first | exact ⟨by omega, by omega, by omega, fun _ => k6, fun _ => p9⟩ | (refine ⟨by omega, by omega, by omega, fun q => ?_, fun q => ?_⟩; (first | ((try simp only [rII, rIJ, rIP, rJJ, rJI, rJP, rPP, rPI, rPJ, g1, g2, g3, g4, g5, g6, g7, g8, Nat.reduceEqDiff, Nat.reduceAdd, false_and, and_false, true_and, and_true, reduceIte, nZ0, nZ1, sσ12_30.1, sσ12_30.2, sσ12_33.1, sσ12_33.2, sσ12_34.1, sσ12_34.2, sσ12_36.1, sσ12_36.2, sσ12_50.1, sσ12_50.2, fun a k => (jσ12 a k).1, fun a k => (jσ12 a k).2] at q) <;> omega)); (have z := (hR q).2.1; exact ⟨⟨ThE.fr (jx := jx) (K := []) (S := [0]) z.1.1 (by repeat (first | exact Fr.rf | assumption | refine Fr.aJ g ?_ (by decide) | refine Fr.aI g ?_ (by decide) | refine Fr.sI g ?_ (by decide) | refine Fr.sJ g ?_ (by decide))) (by decide) (by decide), RecE.fr (K := []) (S := [0]) z.1.2.1 (by repeat (first | exact Fr.rf | assumption | refine Fr.aJ g ?_ (by decide) | refine Fr.aI g ?_ (by decide) | refine Fr.sI g ?_ (by decide) | refine Fr.sJ g ?_ (by decide))) (by decide) (by decide), HeE.fr (jx := jx) (K := []) (S := [0]) z.1.2.2.1 (by repeat (first | exact Fr.rf | assumption | refine Fr.aJ g ?_ (by decide) | refine Fr.aI g ?_ (by decide) | refine Fr.sI g ?_ (by decide) | refine Fr.sJ g ?_ (by decide))) (by decide) (by decide), MkI.fr (rm := rm) (K := []) (S := [0]) z.1.2.2.2 (by repeat (first | exact Fr.rf | assumption | refine Fr.aJ g ?_ (by decide) | refine Fr.aI g ?_ (by decide) | refine Fr.sI g ?_ (by decide) | refine Fr.sJ g ?_ (by decide))) (by decide)⟩, LcI.fr (jx := jx) (K := []) (S := [0]) z.2.1 (by repeat (first | exact Fr.rf | assumption | refine Fr.aJ g ?_ (by decide) | refine Fr.aI g ?_ (by decide) | refine Fr.sI g ?_ (by decide) | refine Fr.sJ g ?_ (by decide))) (by decide) (by decide), fun i hi => by (try simp only [rII, rIJ, rIP, rJJ, rJI, rJP, rPP, rPI, rPJ, g1, g2, g3, g4, g5, g6, g7, g8, Nat.reduceEqDiff, Nat.reduceAdd, false_and, and_false, true_and, and_true, reduceIte, nZ0, nZ1, sσ12_30.1, sσ12_30.2, sσ12_33.1, sσ12_33.2, sσ12_34.1, sσ12_34.2, sσ12_36.1, sσ12_36.2, sσ12_50.1, sσ12_50.2, fun a k => (jσ12 a k).1, fun a k => (jσ12 a k).2]) <;> exact z.2.2 i hi⟩))); first | exact fun _ => ⟨_, rfl⟩ | exact fun q => absurd q k6.1
                · (try simp only [rII, rIJ, rIP, rJJ, rJI, rJP, rPP, rPI, rPJ, g1, g2, g3, g4, g5, g6, g7, g8, Nat.reduceEqDiff, Nat.reduceAdd, false_and, and_false, true_and, and_true, reduceIte, nZ0, nZ1, sσ12_30.1, sσ12_30.2, sσ12_33.1, sσ12_33.2, sσ12_34.1, sσ12_34.2, sσ12_36.1, sσ12_36.2, sσ12_50.1, sσ12_50.2, fun a k => (jσ12 a k).1, fun a k => (jσ12 a k).2]) <;> (first | omega | with_reducible assumption | (unfold rng; omega) | (unfold rng; (repeat' split) <;> omega))
    refine ⟨_, L43 _ _ _ _ ?_ ?_ ?_ (Nat.lt_succ_self _)⟩
    · refine Rg.sI g ?_ (by simp only [rgS]; first | with_reducible exact nZ_rng _ | with_reducible exact nB_rng _ | with_reducible exact wr_rng _ | with_reducible exact i32any _ | (first | omega | with_reducible assumption | (unfold rng; omega) | (unfold rng; (repeat' split) <;> omega))); exact rσ
    · refine Fr.sI g ?_ (by decide); exact fσ
    · refine ⟨?_, ?_⟩; exact (by first | exact ⟨by omega, by omega, by omega, fun _ => k6, fun _ => p9⟩ | (refine ⟨by omega, by omega, by omega, fun q => ?_, fun q => ?_⟩; (first | ((try simp only [rII, rIJ, rIP, rJJ, rJI, rJP, rPP, rPI, rPJ, g1, g2, g3, g4, g5, g6, g7, g8, Nat.reduceEqDiff, Nat.reduceAdd, false_and, and_false, true_and, and_true, reduceIte, nZ0, nZ1] at q) <;> omega)); (have z := (hR q).2.1; exact ⟨⟨ThE.fr (jx := jx) (K := []) (S := [0]) z.1.1 (by repeat (first | exact Fr.rf | assumption | refine Fr.aJ g ?_ (by decide) | refine Fr.aI g ?_ (by decide) | refine Fr.sI g ?_ (by decide) | refine Fr.sJ g ?_ (by decide))) (by decide) (by decide), RecE.fr (K := []) (S := [0]) z.1.2.1 (by repeat (first | exact Fr.rf | assumption | refine Fr.aJ g ?_ (by decide) | refine Fr.aI g ?_ (by decide) | refine Fr.sI g ?_ (by decide) | refine Fr.sJ g ?_ (by decide))) (by decide) (by decide), HeE.fr (jx := jx) (K := []) (S := [0]) z.1.2.2.1 (by repeat (first | exact Fr.rf | assumption | refine Fr.aJ g ?_ (by decide) | refine Fr.aI g ?_ (by decide) | refine Fr.sI g ?_ (by decide) | refine Fr.sJ g ?_ (by decide))) (by decide) (by decide), MkI.fr (rm := rm) (K := []) (S := [0]) z.1.2.2.2 (by repeat (first | exact Fr.rf | assumption | refine Fr.aJ g ?_ (by decide) | refine Fr.aI g ?_ (by decide) | refine Fr.sI g ?_ (by decide) | refine Fr.sJ g ?_ (by decide))) (by decide)⟩, LcI.fr (jx := jx) (K := []) (S := [0]) z.2.1 (by repeat (first | exact Fr.rf | assumption | refine Fr.aJ g ?_ (by decide) | refine Fr.aI g ?_ (by decide) | refine Fr.sI g ?_ (by decide) | refine Fr.sJ g ?_ (by decide))) (by decide) (by decide), fun i hi => by (try simp only [rII, rIJ, rIP, rJJ, rJI, rJP, rPP, rPI, rPJ, g1, g2, g3, g4, g5, g6, g7, g8, Nat.reduceEqDiff, Nat.reduceAdd, false_and, and_false, true_and, and_true, reduceIte, nZ0, nZ1]) <;> exact z.2.2 i hi⟩))); first | exact fun _ => ⟨_, rfl⟩ | exact fun q => absurd q k6.1
  · rename_i hc5
    skip
    unfold w_X16_turn_8
    try simp only [forall_eq, rII, rIJ, rIP, rJJ, rJI, rJP, rPP, rPI, rPJ, g1, g2, g3, g4, g5, g6, g7, g8, Nat.reduceEqDiff, Nat.reduceAdd, false_and, and_false, true_and, and_true, reduceIte, nZ0, nZ1]
    have q7 := rσ.2.1 32; simp only [rgS] at q7
    split
    · rename_i hc12
      skip
      unfold w_X16_turn_19
      try simp only [forall_eq, rII, rIJ, rIP, rJJ, rJI, rJP, rPP, rPI, rPJ, g1, g2, g3, g4, g5, g6, g7, g8, Nat.reduceEqDiff, Nat.reduceAdd, false_and, and_false, true_and, and_true, reduceIte, nZ0, nZ1]
      refine s_X16_within g rσ (fun r15 p8 => ?_)
      obtain ⟨p8, p8b⟩ := p8
      have p8w : r15 = 1 → 1 ≤ v1 ∧ v1 ≤ 5000 := fun e => win (by (first | omega | with_reducible assumption | (unfold rng; omega) | (unfold rng; (repeat' split) <;> omega))) (p8b e)
      try simp only [forall_eq, rII, rIJ, rIP, rJJ, rJI, rJP, rPP, rPI, rPJ, g1, g2, g3, g4, g5, g6, g7, g8, Nat.reduceEqDiff, Nat.reduceAdd, false_and, and_false, true_and, and_true, reduceIte, nZ0, nZ1]
      split
      · rename_i hc28
        skip
        unfold w_X16_turn_35
        try simp only [forall_eq, rII, rIJ, rIP, rJJ, rJI, rJP, rPP, rPI, rPJ, g1, g2, g3, g4, g5, g6, g7, g8, Nat.reduceEqDiff, Nat.reduceAdd, false_and, and_false, true_and, and_true, reduceIte, nZ0, nZ1]
        unfold w_X16_turn_36
        try simp only [forall_eq, rII, rIJ, rIP, rJJ, rJI, rJP, rPP, rPI, rPJ, g1, g2, g3, g4, g5, g6, g7, g8, Nat.reduceEqDiff, Nat.reduceAdd, false_and, and_false, true_and, and_true, reduceIte, nZ0, nZ1]
        have q9 := rσ.2.1 34; simp only [rgS] at q9
        have L43 : ∀ (fu43 : Nat) (τ43 : Sg) (v2 : Int) (v3 : Int), Rg ra jx rm τ43 → Fr ra jx rm [20, 26, 40, 41, 42, 43, 44, 45, 46, 47, 48, 49, 54, 55, 56, 57, 58, 59, 60, 61, 62, 63, 64, 65, 68, 69, 70, 71, 72, 73, 74, 75, 76, 77, 78, 81, 82, 83, 84, 85, 86, 87, 88, 89, 97, 98, 99, 100, 101, 102, 103, 104, 105, 106, 107, 108, 109] [0, 21, 27, 31, 32, 35, 66, 67, 79, 80, 90, 91, 92, 93, 96, 110, 111, 113] σ τ43 → ((0 ≤ v3 ∧ 0 ≤ v2 ∧ v2 ≤ v3 ∧ (gI τ43 rm 0 = 0 → gI σ rm 30 ≠ 0 ∧ 1 ≤ v1 ∧ v1 ≤ 5000) ∧ (gI σ rm 30 ≠ 0 → (ThE ra rm τ43 ∧ RecE ra jx rm ja τ43 ∧ HeE ra rm τ43 ∧ MkI ra jx ja τ43) ∧ LcI ra rm τ43 ∧ (∀ i : Nat, i < 1100 → gI τ43 (ra 54) i ≤ gI σ rm 34))) ∧ (gI σ rm 30 = 0 → ∃ c, τ43 = pI σ rm 0 c)) → ((v1 - v3).toNat) < fu43 → wl_X16_turn_43 ra jx rm Q X fu43 τ43 v1 v2 v3 := by
          intro fu43
          induction fu43 with
          | zero => intro τ43 _ _ _ _ _ h9; omega
          | succ fu43 ih43 =>
            intro τ43 v2 v3 rτ43 fτ43 hi43 hm43
            unfold wl_X16_turn_43
            have sτ43_30 := fτ43.2.1 30 (by decide)
            have sτ43_33 := fτ43.2.1 33 (by decide)
            have sτ43_34 := fτ43.2.1 34 (by decide)
            have sτ43_36 := fτ43.2.1 36 (by decide)
            have sτ43_50 := fτ43.2.1 50 (by decide)
            have jτ43 := fτ43.2.2.1
            unfold w_X16_turn_43
            try simp only [forall_eq, rII, rIJ, rIP, rJJ, rJI, rJP, rPP, rPI, rPJ, g1, g2, g3, g4, g5, g6, g7, g8, Nat.reduceEqDiff, Nat.reduceAdd, false_and, and_false, true_and, and_true, reduceIte, nZ0, nZ1, sτ43_30.1, sτ43_30.2, sτ43_33.1, sτ43_33.2, sτ43_34.1, sτ43_34.2, sτ43_36.1, sτ43_36.2, sτ43_50.1, sτ43_50.2, fun a k => (jτ43 a k).1, fun a k => (jτ43 a k).2]
            obtain ⟨hi43, hz43⟩ := hi43
            obtain ⟨k1, k2, k3, k4, k5⟩ := hi43
            split
            · rename_i hc45
              skip
              unfold w_X16_turn_82
              try simp only [forall_eq, rII, rIJ, rIP, rJJ, rJI, rJP, rPP, rPI, rPJ, g1, g2, g3, g4, g5, g6, g7, g8, Nat.reduceEqDiff, Nat.reduceAdd, false_and, and_false, true_and, and_true, reduceIte, nZ0, nZ1, sτ43_30.1, sτ43_30.2, sτ43_33.1, sτ43_33.2, sτ43_34.1, sτ43_34.2, sτ43_36.1, sτ43_36.2, sτ43_50.1, sτ43_50.2, fun a k => (jτ43 a k).1, fun a k => (jτ43 a k).2]
              refine hQ _ _ ?_ ?_ ?_
              · exact rτ43
              · exact fτ43
              · exact ⟨k5, hz43⟩
            · rename_i hc45
              skip
              unfold w_X16_turn_48
              try simp only [forall_eq, rII, rIJ, rIP, rJJ, rJI, rJP, rPP, rPI, rPJ, g1, g2, g3, g4, g5, g6, g7, g8, Nat.reduceEqDiff, Nat.reduceAdd, false_and, and_false, true_and, and_true, reduceIte, nZ0, nZ1, sτ43_30.1, sτ43_30.2, sτ43_33.1, sτ43_33.2, sτ43_34.1, sτ43_34.2, sτ43_36.1, sτ43_36.2, sτ43_50.1, sτ43_50.2, fun a k => (jτ43 a k).1, fun a k => (jτ43 a k).2]
              have q10 := rτ43.2.1 0; simp only [rgS] at q10
              split
              · rename_i hc52
                skip
                unfold w_X16_turn_82
                try simp only [forall_eq, rII, rIJ, rIP, rJJ, rJI, rJP, rPP, rPI, rPJ, g1, g2, g3, g4, g5, g6, g7, g8, Nat.reduceEqDiff, Nat.reduceAdd, false_and, and_false, true_and, and_true, reduceIte, nZ0, nZ1, sτ43_30.1, sτ43_30.2, sτ43_33.1, sτ43_33.2, sτ43_34.1, sτ43_34.2, sτ43_36.1, sτ43_36.2, sτ43_50.1, sτ43_50.2, fun a k => (jτ43 a k).1, fun a k => (jτ43 a k).2]
                refine hQ _ _ ?_ ?_ ?_
                · exact rτ43
                · exact fτ43
                · exact ⟨k5, hz43⟩
              · rename_i hc52
                skip
                unfold w_X16_turn_55
                try simp only [forall_eq, rII, rIJ, rIP, rJJ, rJI, rJP, rPP, rPI, rPJ, g1, g2, g3, g4, g5, g6, g7, g8, Nat.reduceEqDiff, Nat.reduceAdd, false_and, and_false, true_and, and_true, reduceIte, nZ0, nZ1, sτ43_30.1, sτ43_30.2, sτ43_33.1, sτ43_33.2, sτ43_34.1, sτ43_34.2, sτ43_36.1, sτ43_36.2, sτ43_50.1, sτ43_50.2, fun a k => (jτ43 a k).1, fun a k => (jτ43 a k).2]
                have q11 := rτ43.2.1 31; simp only [rgS] at q11
                split
                · rename_i hc59
                  skip
                  unfold w_X16_turn_82
                  try simp only [forall_eq, rII, rIJ, rIP, rJJ, rJI, rJP, rPP, rPI, rPJ, g1, g2, g3, g4, g5, g6, g7, g8, Nat.reduceEqDiff, Nat.reduceAdd, false_and, and_false, true_and, and_true, reduceIte, nZ0, nZ1, sτ43_30.1, sτ43_30.2, sτ43_33.1, sτ43_33.2, sτ43_34.1, sτ43_34.2, sτ43_36.1, sτ43_36.2, sτ43_50.1, sτ43_50.2, fun a k => (jτ43 a k).1, fun a k => (jτ43 a k).2]
                  refine hQ _ _ ?_ ?_ ?_
                  · exact rτ43
                  · exact fτ43
                  · exact ⟨k5, hz43⟩
                · rename_i hc59
                  skip
                  unfold w_X16_turn_62
                  try simp only [forall_eq, rII, rIJ, rIP, rJJ, rJI, rJP, rPP, rPI, rPJ, g1, g2, g3, g4, g5, g6, g7, g8, Nat.reduceEqDiff, Nat.reduceAdd, false_and, and_false, true_and, and_true, reduceIte, nZ0, nZ1, sτ43_30.1, sτ43_30.2, sτ43_33.1, sτ43_33.2, sτ43_34.1, sτ43_34.2, sτ43_36.1, sτ43_36.2, sτ43_50.1, sτ43_50.2, fun a k => (jτ43 a k).1, fun a k => (jτ43 a k).2]
                  have q12 := rτ43.2.1 32; simp only [rgS] at q12
                  split
                  · rename_i hc66
                    skip
                    unfold w_X16_turn_82
                    try simp only [forall_eq, rII, rIJ, rIP, rJJ, rJI, rJP, rPP, rPI, rPJ, g1, g2, g3, g4, g5, g6, g7, g8, Nat.reduceEqDiff, Nat.reduceAdd, false_and, and_false, true_and, and_true, reduceIte, nZ0, nZ1, sτ43_30.1, sτ43_30.2, sτ43_33.1, sτ43_33.2, sτ43_34.1, sτ43_34.2, sτ43_36.1, sτ43_36.2, sτ43_50.1, sτ43_50.2, fun a k => (jτ43 a k).1, fun a k => (jτ43 a k).2]
                    refine hQ _ _ ?_ ?_ ?_
                    · exact rτ43
                    · exact fτ43
                    · exact ⟨k5, hz43⟩
                  · rename_i hc66
                    skip
                    unfold w_X16_turn_69
                    try simp only [forall_eq, rII, rIJ, rIP, rJJ, rJI, rJP, rPP, rPI, rPJ, g1, g2, g3, g4, g5, g6, g7, g8, Nat.reduceEqDiff, Nat.reduceAdd, false_and, and_false, true_and, and_true, reduceIte, nZ0, nZ1, sτ43_30.1, sτ43_30.2, sτ43_33.1, sτ43_33.2, sτ43_34.1, sτ43_34.2, sτ43_36.1, sτ43_36.2, sτ43_50.1, sτ43_50.2, fun a k => (jτ43 a k).1, fun a k => (jτ43 a k).2]
                    have k6 := k4 (by omega)
                    have k7 := k5 k6.1
                    have hr9 := hR k6.1
                    refine s_X16_oneTurn g rτ43 (by rw [fτ43.2.2.2]; exact hr9.1) hja k7.1.2.1 k7.1.1 k7.1.2.2.1 k7.1.2.2.2 (by (try simp only [rII, rIJ, rIP, rJJ, rJI, rJP, rPP, rPI, rPJ, g1, g2, g3, g4, g5, g6, g7, g8, Nat.reduceEqDiff, Nat.reduceAdd, false_and, and_false, true_and, and_true, reduceIte, nZ0, nZ1, sτ43_30.1, sτ43_30.2, sτ43_33.1, sτ43_33.2, sτ43_34.1, sτ43_34.2, sτ43_36.1, sτ43_36.2, sτ43_50.1, sτ43_50.2, fun a k => (jτ43 a k).1, fun a k => (jτ43 a k).2]) <;> exact hr9.2.2.1) (JobOK.fr hr9.2.2.2.1 hja fτ43 (by decide)) (by (try simp only [rII, rIJ, rIP, rJJ, rJI, rJP, rPP, rPI, rPJ, g1, g2, g3, g4, g5, g6, g7, g8, Nat.reduceEqDiff, Nat.reduceAdd, false_and, and_false, true_and, and_true, reduceIte, nZ0, nZ1, sτ43_30.1, sτ43_30.2, sτ43_33.1, sτ43_33.2, sτ43_34.1, sτ43_34.2, sτ43_36.1, sτ43_36.2, sτ43_50.1, sτ43_50.2, fun a k => (jτ43 a k).1, fun a k => (jτ43 a k).2]) <;> exact hr9.2.2.2.2.1) (by intro i hi; (try simp only [rII, rIJ, rIP, rJJ, rJI, rJP, rPP, rPI, rPJ, g1, g2, g3, g4, g5, g6, g7, g8, Nat.reduceEqDiff, Nat.reduceAdd, false_and, and_false, true_and, and_true, reduceIte, nZ0, nZ1, sτ43_30.1, sτ43_30.2, sτ43_33.1, sτ43_33.2, sτ43_34.1, sτ43_34.2, sτ43_36.1, sτ43_36.2, sτ43_50.1, sτ43_50.2, fun a k => (jτ43 a k).1, fun a k => (jτ43 a k).2]) <;> exact k7.2.2 i hi) (LyI.fr hr9.2.2.2.2.2 hja fτ43 (by decide) (by decide)) k7.2.1 (fun σ17 r18 rσ17 fc p13 => ?_)
                    have fσ17 : Fr ra jx rm [20, 26, 40, 41, 42, 43, 44, 45, 46, 47, 48, 49, 54, 55, 56, 57, 58, 59, 60, 61, 62, 63, 64, 65, 68, 69, 70, 71, 72, 73, 74, 75, 76, 77, 78, 81, 82, 83, 84, 85, 86, 87, 88, 89, 97, 98, 99, 100, 101, 102, 103, 104, 105, 106, 107, 108, 109] [0, 21, 27, 31, 32, 35, 66, 67, 79, 80, 90, 91, 92, 93, 96, 110, 111, 113] σ σ17 := Fr.tr fτ43 (Fr.mor (fc) (by decide) (by decide))
                    have p9 := p13.1
                    have p8 := p13.2
                    simp only [(fτ43.2.1 34 (by decide)).1] at p9
                    have q0 := (fc.2.1 0 (by decide)).1
                    have sσ17_30 := fσ17.2.1 30 (by decide)
                    have sσ17_33 := fσ17.2.1 33 (by decide)
                    have sσ17_34 := fσ17.2.1 34 (by decide)
                    have sσ17_36 := fσ17.2.1 36 (by decide)
                    have sσ17_50 := fσ17.2.1 50 (by decide)
                    have jσ17 := fσ17.2.2.1
                    try simp only [forall_eq, rII, rIJ, rIP, rJJ, rJI, rJP, rPP, rPI, rPJ, g1, g2, g3, g4, g5, g6, g7, g8, Nat.reduceEqDiff, Nat.reduceAdd, false_and, and_false, true_and, and_true, reduceIte, nZ0, nZ1, sσ17_30.1, sσ17_30.2, sσ17_33.1, sσ17_33.2, sσ17_34.1, sσ17_34.2, sσ17_36.1, sσ17_36.2, sσ17_50.1, sσ17_50.2, fun a k => (jσ17 a k).1, fun a k => (jσ17 a k).2]
                    refine ⟨by (first | omega | with_reducible assumption | (unfold rng; omega) | (unfold rng; (repeat' split) <;> omega)), ?_⟩
                    refine ⟨by (first | omega | with_reducible assumption | (unfold rng; omega) | (unfold rng; (repeat' split) <;> omega)), ?_⟩
                    refine ih43 _ _ _ ?_ ?_ ?_ ?_
                    · exact rσ17
                    · exact fσ17
                    · refine ⟨?_, ?_⟩; exact (by first | exact ⟨by omega, by omega, by omega, fun _ => k6, fun _ => p9⟩ | (refine ⟨by omega, by omega, by omega, fun q => ?_, fun q => ?_⟩; (first | ((try simp only [rII, rIJ, rIP, rJJ, rJI, rJP, rPP, rPI, rPJ, g1, g2, g3, g4, g5, g6, g7, g8, Nat.reduceEqDiff, Nat.reduceAdd, false_and, and_false, true_and, and_true, reduceIte, nZ0, nZ1, sσ17_30.1, sσ17_30.2, sσ17_33.1, sσ17_33.2, sσ17_34.1, sσ17_34.2, sσ17_36.1, sσ17_36.2, sσ17_50.1, sσ17_50.2, fun a k => (jσ17 a k).1, fun a k => (jσ17 a k).2] at q) <;> omega)); (have z := (hR q).2.1; exact ⟨⟨ThE.fr (jx := jx) (K := []) (S := [0]) z.1.1 (by repeat (first | exact Fr.rf | assumption | refine Fr.aJ g ?_ (by decide) | refine Fr.aI g ?_ (by decide) | refine Fr.sI g ?_ (by decide) | refine Fr.sJ g ?_ (by decide))) (by decide) (by decide), RecE.fr (K := []) (S := [0]) z.1.2.1 (by repeat (first | exact Fr.rf | assumption | refine Fr.aJ g ?_ (by decide) | refine Fr.aI g ?_ (by decide) | refine Fr.sI g ?_ (by decide) | refine Fr.sJ g ?_ (by decide))) (by decide) (by decide), HeE.fr (jx := jx) (K := []) (S := [0]) z.1.2.2.1 (by repeat (first | exact Fr.rf | assumption | refine Fr.aJ g ?_ (by decide) | refine Fr.aI g ?_ (by decide) | refine Fr.sI g ?_ (by decide) | refine Fr.sJ g ?_ (by decide))) (by decide) (by decide), MkI.fr (rm := rm) (K := []) (S := [0]) z.1.2.2.2 (by repeat (first | exact Fr.rf | assumption | refine Fr.aJ g ?_ (by decide) | refine Fr.aI g ?_ (by decide) | refine Fr.sI g ?_ (by decide) | refine Fr.sJ g ?_ (by decide))) (by decide)⟩, LcI.fr (jx := jx) (K := []) (S := [0]) z.2.1 (by repeat (first | exact Fr.rf | assumption | refine Fr.aJ g ?_ (by decide) | refine Fr.aI g ?_ (by decide) | refine Fr.sI g ?_ (by decide) | refine Fr.sJ g ?_ (by decide))) (by decide) (by decide), fun i hi => by (try simp only [rII, rIJ, rIP, rJJ, rJI, rJP, rPP, rPI, rPJ, g1, g2, g3, g4, g5, g6, g7, g8, Nat.reduceEqDiff, Nat.reduceAdd, false_and, and_false, true_and, and_true, reduceIte, nZ0, nZ1, sσ17_30.1, sσ17_30.2, sσ17_33.1, sσ17_33.2, sσ17_34.1, sσ17_34.2, sσ17_36.1, sσ17_36.2, sσ17_50.1, sσ17_50.2, fun a k => (jσ17 a k).1, fun a k => (jσ17 a k).2]) <;> exact z.2.2 i hi⟩))); first | exact fun _ => ⟨_, rfl⟩ | exact fun q => absurd q k6.1
                    · (try simp only [rII, rIJ, rIP, rJJ, rJI, rJP, rPP, rPI, rPJ, g1, g2, g3, g4, g5, g6, g7, g8, Nat.reduceEqDiff, Nat.reduceAdd, false_and, and_false, true_and, and_true, reduceIte, nZ0, nZ1, sσ17_30.1, sσ17_30.2, sσ17_33.1, sσ17_33.2, sσ17_34.1, sσ17_34.2, sσ17_36.1, sσ17_36.2, sσ17_50.1, sσ17_50.2, fun a k => (jσ17 a k).1, fun a k => (jσ17 a k).2]) <;> (first | omega | with_reducible assumption | (unfold rng; omega) | (unfold rng; (repeat' split) <;> omega))
        refine ⟨_, L43 _ _ _ _ ?_ ?_ ?_ (Nat.lt_succ_self _)⟩
        · refine Rg.sI g ?_ (by simp only [rgS]; first | with_reducible exact nZ_rng _ | with_reducible exact nB_rng _ | with_reducible exact wr_rng _ | with_reducible exact i32any _ | (first | omega | with_reducible assumption | (unfold rng; omega) | (unfold rng; (repeat' split) <;> omega))); exact rσ
        · refine Fr.sI g ?_ (by decide); exact fσ
        · refine ⟨?_, ?_⟩; exact (by first | exact ⟨by omega, by omega, by omega, fun _ => k6, fun _ => p9⟩ | (refine ⟨by omega, by omega, by omega, fun q => ?_, fun q => ?_⟩; (first | ((try simp only [rII, rIJ, rIP, rJJ, rJI, rJP, rPP, rPI, rPJ, g1, g2, g3, g4, g5, g6, g7, g8, Nat.reduceEqDiff, Nat.reduceAdd, false_and, and_false, true_and, and_true, reduceIte, nZ0, nZ1] at q) <;> omega)); (have z := (hR q).2.1; exact ⟨⟨ThE.fr (jx := jx) (K := []) (S := [0]) z.1.1 (by repeat (first | exact Fr.rf | assumption | refine Fr.aJ g ?_ (by decide) | refine Fr.aI g ?_ (by decide) | refine Fr.sI g ?_ (by decide) | refine Fr.sJ g ?_ (by decide))) (by decide) (by decide), RecE.fr (K := []) (S := [0]) z.1.2.1 (by repeat (first | exact Fr.rf | assumption | refine Fr.aJ g ?_ (by decide) | refine Fr.aI g ?_ (by decide) | refine Fr.sI g ?_ (by decide) | refine Fr.sJ g ?_ (by decide))) (by decide) (by decide), HeE.fr (jx := jx) (K := []) (S := [0]) z.1.2.2.1 (by repeat (first | exact Fr.rf | assumption | refine Fr.aJ g ?_ (by decide) | refine Fr.aI g ?_ (by decide) | refine Fr.sI g ?_ (by decide) | refine Fr.sJ g ?_ (by decide))) (by decide) (by decide), MkI.fr (rm := rm) (K := []) (S := [0]) z.1.2.2.2 (by repeat (first | exact Fr.rf | assumption | refine Fr.aJ g ?_ (by decide) | refine Fr.aI g ?_ (by decide) | refine Fr.sI g ?_ (by decide) | refine Fr.sJ g ?_ (by decide))) (by decide)⟩, LcI.fr (jx := jx) (K := []) (S := [0]) z.2.1 (by repeat (first | exact Fr.rf | assumption | refine Fr.aJ g ?_ (by decide) | refine Fr.aI g ?_ (by decide) | refine Fr.sI g ?_ (by decide) | refine Fr.sJ g ?_ (by decide))) (by decide) (by decide), fun i hi => by (try simp only [rII, rIJ, rIP, rJJ, rJI, rJP, rPP, rPI, rPJ, g1, g2, g3, g4, g5, g6, g7, g8, Nat.reduceEqDiff, Nat.reduceAdd, false_and, and_false, true_and, and_true, reduceIte, nZ0, nZ1]) <;> exact z.2.2 i hi⟩))); first | exact fun _ => ⟨_, rfl⟩ | exact fun q => absurd q k6.1
      · rename_i hc28
        skip
        unfold w_X16_turn_31
        try simp only [forall_eq, rII, rIJ, rIP, rJJ, rJI, rJP, rPP, rPI, rPJ, g1, g2, g3, g4, g5, g6, g7, g8, Nat.reduceEqDiff, Nat.reduceAdd, false_and, and_false, true_and, and_true, reduceIte, nZ0, nZ1]
        unfold w_X16_turn_36
        try simp only [forall_eq, rII, rIJ, rIP, rJJ, rJI, rJP, rPP, rPI, rPJ, g1, g2, g3, g4, g5, g6, g7, g8, Nat.reduceEqDiff, Nat.reduceAdd, false_and, and_false, true_and, and_true, reduceIte, nZ0, nZ1]
        have q14 := rσ.2.1 34; simp only [rgS] at q14
        have L43 : ∀ (fu43 : Nat) (τ43 : Sg) (v2 : Int) (v3 : Int), Rg ra jx rm τ43 → Fr ra jx rm [20, 26, 40, 41, 42, 43, 44, 45, 46, 47, 48, 49, 54, 55, 56, 57, 58, 59, 60, 61, 62, 63, 64, 65, 68, 69, 70, 71, 72, 73, 74, 75, 76, 77, 78, 81, 82, 83, 84, 85, 86, 87, 88, 89, 97, 98, 99, 100, 101, 102, 103, 104, 105, 106, 107, 108, 109] [0, 21, 27, 31, 32, 35, 66, 67, 79, 80, 90, 91, 92, 93, 96, 110, 111, 113] σ τ43 → ((0 ≤ v3 ∧ 0 ≤ v2 ∧ v2 ≤ v3 ∧ (gI τ43 rm 0 = 0 → gI σ rm 30 ≠ 0 ∧ 1 ≤ v1 ∧ v1 ≤ 5000) ∧ (gI σ rm 30 ≠ 0 → (ThE ra rm τ43 ∧ RecE ra jx rm ja τ43 ∧ HeE ra rm τ43 ∧ MkI ra jx ja τ43) ∧ LcI ra rm τ43 ∧ (∀ i : Nat, i < 1100 → gI τ43 (ra 54) i ≤ gI σ rm 34))) ∧ (gI σ rm 30 = 0 → ∃ c, τ43 = pI σ rm 0 c)) → ((v1 - v3).toNat) < fu43 → wl_X16_turn_43 ra jx rm Q X fu43 τ43 v1 v2 v3 := by
          intro fu43
          induction fu43 with
          | zero => intro τ43 _ _ _ _ _ h9; omega
          | succ fu43 ih43 =>
            intro τ43 v2 v3 rτ43 fτ43 hi43 hm43
            unfold wl_X16_turn_43
            have sτ43_30 := fτ43.2.1 30 (by decide)
            have sτ43_33 := fτ43.2.1 33 (by decide)
            have sτ43_34 := fτ43.2.1 34 (by decide)
            have sτ43_36 := fτ43.2.1 36 (by decide)
            have sτ43_50 := fτ43.2.1 50 (by decide)
            have jτ43 := fτ43.2.2.1
            unfold w_X16_turn_43
            try simp only [forall_eq, rII, rIJ, rIP, rJJ, rJI, rJP, rPP, rPI, rPJ, g1, g2, g3, g4, g5, g6, g7, g8, Nat.reduceEqDiff, Nat.reduceAdd, false_and, and_false, true_and, and_true, reduceIte, nZ0, nZ1, sτ43_30.1, sτ43_30.2, sτ43_33.1, sτ43_33.2, sτ43_34.1, sτ43_34.2, sτ43_36.1, sτ43_36.2, sτ43_50.1, sτ43_50.2, fun a k => (jτ43 a k).1, fun a k => (jτ43 a k).2]
            obtain ⟨hi43, hz43⟩ := hi43
            obtain ⟨k1, k2, k3, k4, k5⟩ := hi43
            split
            · rename_i hc45
              skip
              unfold w_X16_turn_82
              try simp only [forall_eq, rII, rIJ, rIP, rJJ, rJI, rJP, rPP, rPI, rPJ, g1, g2, g3, g4, g5, g6, g7, g8, Nat.reduceEqDiff, Nat.reduceAdd, false_and, and_false, true_and, and_true, reduceIte, nZ0, nZ1, sτ43_30.1, sτ43_30.2, sτ43_33.1, sτ43_33.2, sτ43_34.1, sτ43_34.2, sτ43_36.1, sτ43_36.2, sτ43_50.1, sτ43_50.2, fun a k => (jτ43 a k).1, fun a k => (jτ43 a k).2]
              refine hQ _ _ ?_ ?_ ?_
              · exact rτ43
              · exact fτ43
              · exact ⟨k5, hz43⟩
            · rename_i hc45
              skip
              unfold w_X16_turn_48
              try simp only [forall_eq, rII, rIJ, rIP, rJJ, rJI, rJP, rPP, rPI, rPJ, g1, g2, g3, g4, g5, g6, g7, g8, Nat.reduceEqDiff, Nat.reduceAdd, false_and, and_false, true_and, and_true, reduceIte, nZ0, nZ1, sτ43_30.1, sτ43_30.2, sτ43_33.1, sτ43_33.2, sτ43_34.1, sτ43_34.2, sτ43_36.1, sτ43_36.2, sτ43_50.1, sτ43_50.2, fun a k => (jτ43 a k).1, fun a k => (jτ43 a k).2]
              have q15 := rτ43.2.1 0; simp only [rgS] at q15
              split
              · rename_i hc52
                skip
                unfold w_X16_turn_82
                try simp only [forall_eq, rII, rIJ, rIP, rJJ, rJI, rJP, rPP, rPI, rPJ, g1, g2, g3, g4, g5, g6, g7, g8, Nat.reduceEqDiff, Nat.reduceAdd, false_and, and_false, true_and, and_true, reduceIte, nZ0, nZ1, sτ43_30.1, sτ43_30.2, sτ43_33.1, sτ43_33.2, sτ43_34.1, sτ43_34.2, sτ43_36.1, sτ43_36.2, sτ43_50.1, sτ43_50.2, fun a k => (jτ43 a k).1, fun a k => (jτ43 a k).2]
                refine hQ _ _ ?_ ?_ ?_
                · exact rτ43
                · exact fτ43
                · exact ⟨k5, hz43⟩
              · rename_i hc52
                skip
                unfold w_X16_turn_55
                try simp only [forall_eq, rII, rIJ, rIP, rJJ, rJI, rJP, rPP, rPI, rPJ, g1, g2, g3, g4, g5, g6, g7, g8, Nat.reduceEqDiff, Nat.reduceAdd, false_and, and_false, true_and, and_true, reduceIte, nZ0, nZ1, sτ43_30.1, sτ43_30.2, sτ43_33.1, sτ43_33.2, sτ43_34.1, sτ43_34.2, sτ43_36.1, sτ43_36.2, sτ43_50.1, sτ43_50.2, fun a k => (jτ43 a k).1, fun a k => (jτ43 a k).2]
                have q16 := rτ43.2.1 31; simp only [rgS] at q16
                split
                · rename_i hc59
                  skip
                  unfold w_X16_turn_82
                  try simp only [forall_eq, rII, rIJ, rIP, rJJ, rJI, rJP, rPP, rPI, rPJ, g1, g2, g3, g4, g5, g6, g7, g8, Nat.reduceEqDiff, Nat.reduceAdd, false_and, and_false, true_and, and_true, reduceIte, nZ0, nZ1, sτ43_30.1, sτ43_30.2, sτ43_33.1, sτ43_33.2, sτ43_34.1, sτ43_34.2, sτ43_36.1, sτ43_36.2, sτ43_50.1, sτ43_50.2, fun a k => (jτ43 a k).1, fun a k => (jτ43 a k).2]
                  refine hQ _ _ ?_ ?_ ?_
                  · exact rτ43
                  · exact fτ43
                  · exact ⟨k5, hz43⟩
                · rename_i hc59
                  skip
                  unfold w_X16_turn_62
                  try simp only [forall_eq, rII, rIJ, rIP, rJJ, rJI, rJP, rPP, rPI, rPJ, g1, g2, g3, g4, g5, g6, g7, g8, Nat.reduceEqDiff, Nat.reduceAdd, false_and, and_false, true_and, and_true, reduceIte, nZ0, nZ1, sτ43_30.1, sτ43_30.2, sτ43_33.1, sτ43_33.2, sτ43_34.1, sτ43_34.2, sτ43_36.1, sτ43_36.2, sτ43_50.1, sτ43_50.2, fun a k => (jτ43 a k).1, fun a k => (jτ43 a k).2]
                  have q17 := rτ43.2.1 32; simp only [rgS] at q17
                  split
                  · rename_i hc66
                    skip
                    unfold w_X16_turn_82
                    try simp only [forall_eq, rII, rIJ, rIP, rJJ, rJI, rJP, rPP, rPI, rPJ, g1, g2, g3, g4, g5, g6, g7, g8, Nat.reduceEqDiff, Nat.reduceAdd, false_and, and_false, true_and, and_true, reduceIte, nZ0, nZ1, sτ43_30.1, sτ43_30.2, sτ43_33.1, sτ43_33.2, sτ43_34.1, sτ43_34.2, sτ43_36.1, sτ43_36.2, sτ43_50.1, sτ43_50.2, fun a k => (jτ43 a k).1, fun a k => (jτ43 a k).2]
                    refine hQ _ _ ?_ ?_ ?_
                    · exact rτ43
                    · exact fτ43
                    · exact ⟨k5, hz43⟩
                  · rename_i hc66
                    skip
                    unfold w_X16_turn_69
                    try simp only [forall_eq, rII, rIJ, rIP, rJJ, rJI, rJP, rPP, rPI, rPJ, g1, g2, g3, g4, g5, g6, g7, g8, Nat.reduceEqDiff, Nat.reduceAdd, false_and, and_false, true_and, and_true, reduceIte, nZ0, nZ1, sτ43_30.1, sτ43_30.2, sτ43_33.1, sτ43_33.2, sτ43_34.1, sτ43_34.2, sτ43_36.1, sτ43_36.2, sτ43_50.1, sτ43_50.2, fun a k => (jτ43 a k).1, fun a k => (jτ43 a k).2]
                    have k6 := k4 (by omega)
                    have k7 := k5 k6.1
                    have hr9 := hR k6.1
                    refine s_X16_oneTurn g rτ43 (by rw [fτ43.2.2.2]; exact hr9.1) hja k7.1.2.1 k7.1.1 k7.1.2.2.1 k7.1.2.2.2 (by (try simp only [rII, rIJ, rIP, rJJ, rJI, rJP, rPP, rPI, rPJ, g1, g2, g3, g4, g5, g6, g7, g8, Nat.reduceEqDiff, Nat.reduceAdd, false_and, and_false, true_and, and_true, reduceIte, nZ0, nZ1, sτ43_30.1, sτ43_30.2, sτ43_33.1, sτ43_33.2, sτ43_34.1, sτ43_34.2, sτ43_36.1, sτ43_36.2, sτ43_50.1, sτ43_50.2, fun a k => (jτ43 a k).1, fun a k => (jτ43 a k).2]) <;> exact hr9.2.2.1) (JobOK.fr hr9.2.2.2.1 hja fτ43 (by decide)) (by (try simp only [rII, rIJ, rIP, rJJ, rJI, rJP, rPP, rPI, rPJ, g1, g2, g3, g4, g5, g6, g7, g8, Nat.reduceEqDiff, Nat.reduceAdd, false_and, and_false, true_and, and_true, reduceIte, nZ0, nZ1, sτ43_30.1, sτ43_30.2, sτ43_33.1, sτ43_33.2, sτ43_34.1, sτ43_34.2, sτ43_36.1, sτ43_36.2, sτ43_50.1, sτ43_50.2, fun a k => (jτ43 a k).1, fun a k => (jτ43 a k).2]) <;> exact hr9.2.2.2.2.1) (by intro i hi; (try simp only [rII, rIJ, rIP, rJJ, rJI, rJP, rPP, rPI, rPJ, g1, g2, g3, g4, g5, g6, g7, g8, Nat.reduceEqDiff, Nat.reduceAdd, false_and, and_false, true_and, and_true, reduceIte, nZ0, nZ1, sτ43_30.1, sτ43_30.2, sτ43_33.1, sτ43_33.2, sτ43_34.1, sτ43_34.2, sτ43_36.1, sτ43_36.2, sτ43_50.1, sτ43_50.2, fun a k => (jτ43 a k).1, fun a k => (jτ43 a k).2]) <;> exact k7.2.2 i hi) (LyI.fr hr9.2.2.2.2.2 hja fτ43 (by decide) (by decide)) k7.2.1 (fun σ20 r21 rσ20 fc p18 => ?_)
                    have fσ20 : Fr ra jx rm [20, 26, 40, 41, 42, 43, 44, 45, 46, 47, 48, 49, 54, 55, 56, 57, 58, 59, 60, 61, 62, 63, 64, 65, 68, 69, 70, 71, 72, 73, 74, 75, 76, 77, 78, 81, 82, 83, 84, 85, 86, 87, 88, 89, 97, 98, 99, 100, 101, 102, 103, 104, 105, 106, 107, 108, 109] [0, 21, 27, 31, 32, 35, 66, 67, 79, 80, 90, 91, 92, 93, 96, 110, 111, 113] σ σ20 := Fr.tr fτ43 (Fr.mor (fc) (by decide) (by decide))
                    have p9 := p18.1
                    have p8 := p18.2
                    simp only [(fτ43.2.1 34 (by decide)).1] at p9
                    have q0 := (fc.2.1 0 (by decide)).1
                    have sσ20_30 := fσ20.2.1 30 (by decide)
                    have sσ20_33 := fσ20.2.1 33 (by decide)
                    have sσ20_34 := fσ20.2.1 34 (by decide)
                    have sσ20_36 := fσ20.2.1 36 (by decide)
                    have sσ20_50 := fσ20.2.1 50 (by decide)
                    have jσ20 := fσ20.2.2.1
                    try simp only [forall_eq, rII, rIJ, rIP, rJJ, rJI, rJP, rPP, rPI, rPJ, g1, g2, g3, g4, g5, g6, g7, g8, Nat.reduceEqDiff, Nat.reduceAdd, false_and, and_false, true_and, and_true, reduceIte, nZ0, nZ1, sσ20_30.1, sσ20_30.2, sσ20_33.1, sσ20_33.2, sσ20_34.1, sσ20_34.2, sσ20_36.1, sσ20_36.2, sσ20_50.1, sσ20_50.2, fun a k => (jσ20 a k).1, fun a k => (jσ20 a k).2]
                    refine ⟨by (first | omega | with_reducible assumption | (unfold rng; omega) | (unfold rng; (repeat' split) <;> omega)), ?_⟩
                    refine ⟨by (first | omega | with_reducible assumption | (unfold rng; omega) | (unfold rng; (repeat' split) <;> omega)), ?_⟩
                    refine ih43 _ _ _ ?_ ?_ ?_ ?_
                    · exact rσ20
                    · exact fσ20
                    · refine ⟨?_, ?_⟩; exact (by first | exact ⟨by omega, by omega, by omega, fun _ => k6, fun _ => p9⟩ | (refine ⟨by omega, by omega, by omega, fun q => ?_, fun q => ?_⟩; (first | ((try simp only [rII, rIJ, rIP, rJJ, rJI, rJP, rPP, rPI, rPJ, g1, g2, g3, g4, g5, g6, g7, g8, Nat.reduceEqDiff, Nat.reduceAdd, false_and, and_false, true_and, and_true, reduceIte, nZ0, nZ1, sσ20_30.1, sσ20_30.2, sσ20_33.1, sσ20_33.2, sσ20_34.1, sσ20_34.2, sσ20_36.1, sσ20_36.2, sσ20_50.1, sσ20_50.2, fun a k => (jσ20 a k).1, fun a k => (jσ20 a k).2] at q) <;> omega)); (have z := (hR q).2.1; exact ⟨⟨ThE.fr (jx := jx) (K := []) (S := [0]) z.1.1 (by repeat (first | exact Fr.rf | assumption | refine Fr.aJ g ?_ (by decide) | refine Fr.aI g ?_ (by decide) | refine Fr.sI g ?_ (by decide) | refine Fr.sJ g ?_ (by decide))) (by decide) (by decide), RecE.fr (K := []) (S := [0]) z.1.2.1 (by repeat (first | exact Fr.rf | assumption | refine Fr.aJ g ?_ (by decide) | refine Fr.aI g ?_ (by decide) | refine Fr.sI g ?_ (by decide) | refine Fr.sJ g ?_ (by decide))) (by decide) (by decide), HeE.fr (jx := jx) (K := []) (S := [0]) z.1.2.2.1 (by repeat (first | exact Fr.rf | assumption | refine Fr.aJ g ?_ (by decide) | refine Fr.aI g ?_ (by decide) | refine Fr.sI g ?_ (by decide) | refine Fr.sJ g ?_ (by decide))) (by decide) (by decide), MkI.fr (rm := rm) (K := []) (S := [0]) z.1.2.2.2 (by repeat (first | exact Fr.rf | assumption | refine Fr.aJ g ?_ (by decide) | refine Fr.aI g ?_ (by decide) | refine Fr.sI g ?_ (by decide) | refine Fr.sJ g ?_ (by decide))) (by decide)⟩, LcI.fr (jx := jx) (K := []) (S := [0]) z.2.1 (by repeat (first | exact Fr.rf | assumption | refine Fr.aJ g ?_ (by decide) | refine Fr.aI g ?_ (by decide) | refine Fr.sI g ?_ (by decide) | refine Fr.sJ g ?_ (by decide))) (by decide) (by decide), fun i hi => by (try simp only [rII, rIJ, rIP, rJJ, rJI, rJP, rPP, rPI, rPJ, g1, g2, g3, g4, g5, g6, g7, g8, Nat.reduceEqDiff, Nat.reduceAdd, false_and, and_false, true_and, and_true, reduceIte, nZ0, nZ1, sσ20_30.1, sσ20_30.2, sσ20_33.1, sσ20_33.2, sσ20_34.1, sσ20_34.2, sσ20_36.1, sσ20_36.2, sσ20_50.1, sσ20_50.2, fun a k => (jσ20 a k).1, fun a k => (jσ20 a k).2]) <;> exact z.2.2 i hi⟩))); first | exact fun _ => ⟨_, rfl⟩ | exact fun q => absurd q k6.1
                    · (try simp only [rII, rIJ, rIP, rJJ, rJI, rJP, rPP, rPI, rPJ, g1, g2, g3, g4, g5, g6, g7, g8, Nat.reduceEqDiff, Nat.reduceAdd, false_and, and_false, true_and, and_true, reduceIte, nZ0, nZ1, sσ20_30.1, sσ20_30.2, sσ20_33.1, sσ20_33.2, sσ20_34.1, sσ20_34.2, sσ20_36.1, sσ20_36.2, sσ20_50.1, sσ20_50.2, fun a k => (jσ20 a k).1, fun a k => (jσ20 a k).2]) <;> (first | omega | with_reducible assumption | (unfold rng; omega) | (unfold rng; (repeat' split) <;> omega))
        refine ⟨_, L43 _ _ _ _ ?_ ?_ ?_ (Nat.lt_succ_self _)⟩
        · refine Rg.sI g ?_ (by simp only [rgS]; first | with_reducible exact nZ_rng _ | with_reducible exact nB_rng _ | with_reducible exact wr_rng _ | with_reducible exact i32any _ | (first | omega | with_reducible assumption | (unfold rng; omega) | (unfold rng; (repeat' split) <;> omega))); exact rσ
        · refine Fr.sI g ?_ (by decide); exact fσ
        · refine ⟨?_, ?_⟩; exact (by first | exact ⟨by omega, by omega, by omega, fun _ => k6, fun _ => p9⟩ | (refine ⟨by omega, by omega, by omega, fun q => ?_, fun q => ?_⟩; (first | ((try simp only [rII, rIJ, rIP, rJJ, rJI, rJP, rPP, rPI, rPJ, g1, g2, g3, g4, g5, g6, g7, g8, Nat.reduceEqDiff, Nat.reduceAdd, false_and, and_false, true_and, and_true, reduceIte, nZ0, nZ1] at q) <;> omega)); (have z := (hR q).2.1; exact ⟨⟨ThE.fr (jx := jx) (K := []) (S := [0]) z.1.1 (by repeat (first | exact Fr.rf | assumption | refine Fr.aJ g ?_ (by decide) | refine Fr.aI g ?_ (by decide) | refine Fr.sI g ?_ (by decide) | refine Fr.sJ g ?_ (by decide))) (by decide) (by decide), RecE.fr (K := []) (S := [0]) z.1.2.1 (by repeat (first | exact Fr.rf | assumption | refine Fr.aJ g ?_ (by decide) | refine Fr.aI g ?_ (by decide) | refine Fr.sI g ?_ (by decide) | refine Fr.sJ g ?_ (by decide))) (by decide) (by decide), HeE.fr (jx := jx) (K := []) (S := [0]) z.1.2.2.1 (by repeat (first | exact Fr.rf | assumption | refine Fr.aJ g ?_ (by decide) | refine Fr.aI g ?_ (by decide) | refine Fr.sI g ?_ (by decide) | refine Fr.sJ g ?_ (by decide))) (by decide) (by decide), MkI.fr (rm := rm) (K := []) (S := [0]) z.1.2.2.2 (by repeat (first | exact Fr.rf | assumption | refine Fr.aJ g ?_ (by decide) | refine Fr.aI g ?_ (by decide) | refine Fr.sI g ?_ (by decide) | refine Fr.sJ g ?_ (by decide))) (by decide)⟩, LcI.fr (jx := jx) (K := []) (S := [0]) z.2.1 (by repeat (first | exact Fr.rf | assumption | refine Fr.aJ g ?_ (by decide) | refine Fr.aI g ?_ (by decide) | refine Fr.sI g ?_ (by decide) | refine Fr.sJ g ?_ (by decide))) (by decide) (by decide), fun i hi => by (try simp only [rII, rIJ, rIP, rJJ, rJI, rJP, rPP, rPI, rPJ, g1, g2, g3, g4, g5, g6, g7, g8, Nat.reduceEqDiff, Nat.reduceAdd, false_and, and_false, true_and, and_true, reduceIte, nZ0, nZ1]) <;> exact z.2.2 i hi⟩))); first | exact fun _ => ⟨_, rfl⟩ | exact fun q => absurd q k6.1
    · rename_i hc12
      skip
      unfold w_X16_turn_15
      try simp only [forall_eq, rII, rIJ, rIP, rJJ, rJI, rJP, rPP, rPI, rPJ, g1, g2, g3, g4, g5, g6, g7, g8, Nat.reduceEqDiff, Nat.reduceAdd, false_and, and_false, true_and, and_true, reduceIte, nZ0, nZ1]
      unfold w_X16_turn_36
      try simp only [forall_eq, rII, rIJ, rIP, rJJ, rJI, rJP, rPP, rPI, rPJ, g1, g2, g3, g4, g5, g6, g7, g8, Nat.reduceEqDiff, Nat.reduceAdd, false_and, and_false, true_and, and_true, reduceIte, nZ0, nZ1]
      have q19 := rσ.2.1 34; simp only [rgS] at q19
      have L43 : ∀ (fu43 : Nat) (τ43 : Sg) (v2 : Int) (v3 : Int), Rg ra jx rm τ43 → Fr ra jx rm [20, 26, 40, 41, 42, 43, 44, 45, 46, 47, 48, 49, 54, 55, 56, 57, 58, 59, 60, 61, 62, 63, 64, 65, 68, 69, 70, 71, 72, 73, 74, 75, 76, 77, 78, 81, 82, 83, 84, 85, 86, 87, 88, 89, 97, 98, 99, 100, 101, 102, 103, 104, 105, 106, 107, 108, 109] [0, 21, 27, 31, 32, 35, 66, 67, 79, 80, 90, 91, 92, 93, 96, 110, 111, 113] σ τ43 → ((0 ≤ v3 ∧ 0 ≤ v2 ∧ v2 ≤ v3 ∧ (gI τ43 rm 0 = 0 → gI σ rm 30 ≠ 0 ∧ 1 ≤ v1 ∧ v1 ≤ 5000) ∧ (gI σ rm 30 ≠ 0 → (ThE ra rm τ43 ∧ RecE ra jx rm ja τ43 ∧ HeE ra rm τ43 ∧ MkI ra jx ja τ43) ∧ LcI ra rm τ43 ∧ (∀ i : Nat, i < 1100 → gI τ43 (ra 54) i ≤ gI σ rm 34))) ∧ (gI σ rm 30 = 0 → ∃ c, τ43 = pI σ rm 0 c)) → ((v1 - v3).toNat) < fu43 → wl_X16_turn_43 ra jx rm Q X fu43 τ43 v1 v2 v3 := by
        intro fu43
        induction fu43 with
        | zero => intro τ43 _ _ _ _ _ h9; omega
        | succ fu43 ih43 =>
          intro τ43 v2 v3 rτ43 fτ43 hi43 hm43
          unfold wl_X16_turn_43
          have sτ43_30 := fτ43.2.1 30 (by decide)
          have sτ43_33 := fτ43.2.1 33 (by decide)
          have sτ43_34 := fτ43.2.1 34 (by decide)
          have sτ43_36 := fτ43.2.1 36 (by decide)
          have sτ43_50 := fτ43.2.1 50 (by decide)
          have jτ43 := fτ43.2.2.1
          unfold w_X16_turn_43
          try simp only [forall_eq, rII, rIJ, rIP, rJJ, rJI, rJP, rPP, rPI, rPJ, g1, g2, g3, g4, g5, g6, g7, g8, Nat.reduceEqDiff, Nat.reduceAdd, false_and, and_false, true_and, and_true, reduceIte, nZ0, nZ1, sτ43_30.1, sτ43_30.2, sτ43_33.1, sτ43_33.2, sτ43_34.1, sτ43_34.2, sτ43_36.1, sτ43_36.2, sτ43_50.1, sτ43_50.2, fun a k => (jτ43 a k).1, fun a k => (jτ43 a k).2]
          obtain ⟨hi43, hz43⟩ := hi43
          obtain ⟨k1, k2, k3, k4, k5⟩ := hi43
          split
          · rename_i hc45
            skip
            unfold w_X16_turn_82
            try simp only [forall_eq, rII, rIJ, rIP, rJJ, rJI, rJP, rPP, rPI, rPJ, g1, g2, g3, g4, g5, g6, g7, g8, Nat.reduceEqDiff, Nat.reduceAdd, false_and, and_false, true_and, and_true, reduceIte, nZ0, nZ1, sτ43_30.1, sτ43_30.2, sτ43_33.1, sτ43_33.2, sτ43_34.1, sτ43_34.2, sτ43_36.1, sτ43_36.2, sτ43_50.1, sτ43_50.2, fun a k => (jτ43 a k).1, fun a k => (jτ43 a k).2]
            refine hQ _ _ ?_ ?_ ?_
            · exact rτ43
            · exact fτ43
            · exact ⟨k5, hz43⟩
          · rename_i hc45
            skip
            unfold w_X16_turn_48
            try simp only [forall_eq, rII, rIJ, rIP, rJJ, rJI, rJP, rPP, rPI, rPJ, g1, g2, g3, g4, g5, g6, g7, g8, Nat.reduceEqDiff, Nat.reduceAdd, false_and, and_false, true_and, and_true, reduceIte, nZ0, nZ1, sτ43_30.1, sτ43_30.2, sτ43_33.1, sτ43_33.2, sτ43_34.1, sτ43_34.2, sτ43_36.1, sτ43_36.2, sτ43_50.1, sτ43_50.2, fun a k => (jτ43 a k).1, fun a k => (jτ43 a k).2]
            have q20 := rτ43.2.1 0; simp only [rgS] at q20
            split
            · rename_i hc52
              skip
              unfold w_X16_turn_82
              try simp only [forall_eq, rII, rIJ, rIP, rJJ, rJI, rJP, rPP, rPI, rPJ, g1, g2, g3, g4, g5, g6, g7, g8, Nat.reduceEqDiff, Nat.reduceAdd, false_and, and_false, true_and, and_true, reduceIte, nZ0, nZ1, sτ43_30.1, sτ43_30.2, sτ43_33.1, sτ43_33.2, sτ43_34.1, sτ43_34.2, sτ43_36.1, sτ43_36.2, sτ43_50.1, sτ43_50.2, fun a k => (jτ43 a k).1, fun a k => (jτ43 a k).2]
              refine hQ _ _ ?_ ?_ ?_
              · exact rτ43
              · exact fτ43
              · exact ⟨k5, hz43⟩
            · rename_i hc52
              skip
              unfold w_X16_turn_55
              try simp only [forall_eq, rII, rIJ, rIP, rJJ, rJI, rJP, rPP, rPI, rPJ, g1, g2, g3, g4, g5, g6, g7, g8, Nat.reduceEqDiff, Nat.reduceAdd, false_and, and_false, true_and, and_true, reduceIte, nZ0, nZ1, sτ43_30.1, sτ43_30.2, sτ43_33.1, sτ43_33.2, sτ43_34.1, sτ43_34.2, sτ43_36.1, sτ43_36.2, sτ43_50.1, sτ43_50.2, fun a k => (jτ43 a k).1, fun a k => (jτ43 a k).2]
              have q21 := rτ43.2.1 31; simp only [rgS] at q21
              split
              · rename_i hc59
                skip
                unfold w_X16_turn_82
                try simp only [forall_eq, rII, rIJ, rIP, rJJ, rJI, rJP, rPP, rPI, rPJ, g1, g2, g3, g4, g5, g6, g7, g8, Nat.reduceEqDiff, Nat.reduceAdd, false_and, and_false, true_and, and_true, reduceIte, nZ0, nZ1, sτ43_30.1, sτ43_30.2, sτ43_33.1, sτ43_33.2, sτ43_34.1, sτ43_34.2, sτ43_36.1, sτ43_36.2, sτ43_50.1, sτ43_50.2, fun a k => (jτ43 a k).1, fun a k => (jτ43 a k).2]
                refine hQ _ _ ?_ ?_ ?_
                · exact rτ43
                · exact fτ43
                · exact ⟨k5, hz43⟩
              · rename_i hc59
                skip
                unfold w_X16_turn_62
                try simp only [forall_eq, rII, rIJ, rIP, rJJ, rJI, rJP, rPP, rPI, rPJ, g1, g2, g3, g4, g5, g6, g7, g8, Nat.reduceEqDiff, Nat.reduceAdd, false_and, and_false, true_and, and_true, reduceIte, nZ0, nZ1, sτ43_30.1, sτ43_30.2, sτ43_33.1, sτ43_33.2, sτ43_34.1, sτ43_34.2, sτ43_36.1, sτ43_36.2, sτ43_50.1, sτ43_50.2, fun a k => (jτ43 a k).1, fun a k => (jτ43 a k).2]
                have q22 := rτ43.2.1 32; simp only [rgS] at q22
                split
                · rename_i hc66
                  skip
                  unfold w_X16_turn_82
                  try simp only [forall_eq, rII, rIJ, rIP, rJJ, rJI, rJP, rPP, rPI, rPJ, g1, g2, g3, g4, g5, g6, g7, g8, Nat.reduceEqDiff, Nat.reduceAdd, false_and, and_false, true_and, and_true, reduceIte, nZ0, nZ1, sτ43_30.1, sτ43_30.2, sτ43_33.1, sτ43_33.2, sτ43_34.1, sτ43_34.2, sτ43_36.1, sτ43_36.2, sτ43_50.1, sτ43_50.2, fun a k => (jτ43 a k).1, fun a k => (jτ43 a k).2]
                  refine hQ _ _ ?_ ?_ ?_
                  · exact rτ43
                  · exact fτ43
                  · exact ⟨k5, hz43⟩
                · rename_i hc66
                  skip
                  unfold w_X16_turn_69
                  try simp only [forall_eq, rII, rIJ, rIP, rJJ, rJI, rJP, rPP, rPI, rPJ, g1, g2, g3, g4, g5, g6, g7, g8, Nat.reduceEqDiff, Nat.reduceAdd, false_and, and_false, true_and, and_true, reduceIte, nZ0, nZ1, sτ43_30.1, sτ43_30.2, sτ43_33.1, sτ43_33.2, sτ43_34.1, sτ43_34.2, sτ43_36.1, sτ43_36.2, sτ43_50.1, sτ43_50.2, fun a k => (jτ43 a k).1, fun a k => (jτ43 a k).2]
                  have k6 := k4 (by omega)
                  have k7 := k5 k6.1
                  have hr9 := hR k6.1
                  refine s_X16_oneTurn g rτ43 (by rw [fτ43.2.2.2]; exact hr9.1) hja k7.1.2.1 k7.1.1 k7.1.2.2.1 k7.1.2.2.2 (by (try simp only [rII, rIJ, rIP, rJJ, rJI, rJP, rPP, rPI, rPJ, g1, g2, g3, g4, g5, g6, g7, g8, Nat.reduceEqDiff, Nat.reduceAdd, false_and, and_false, true_and, and_true, reduceIte, nZ0, nZ1, sτ43_30.1, sτ43_30.2, sτ43_33.1, sτ43_33.2, sτ43_34.1, sτ43_34.2, sτ43_36.1, sτ43_36.2, sτ43_50.1, sτ43_50.2, fun a k => (jτ43 a k).1, fun a k => (jτ43 a k).2]) <;> exact hr9.2.2.1) (JobOK.fr hr9.2.2.2.1 hja fτ43 (by decide)) (by (try simp only [rII, rIJ, rIP, rJJ, rJI, rJP, rPP, rPI, rPJ, g1, g2, g3, g4, g5, g6, g7, g8, Nat.reduceEqDiff, Nat.reduceAdd, false_and, and_false, true_and, and_true, reduceIte, nZ0, nZ1, sτ43_30.1, sτ43_30.2, sτ43_33.1, sτ43_33.2, sτ43_34.1, sτ43_34.2, sτ43_36.1, sτ43_36.2, sτ43_50.1, sτ43_50.2, fun a k => (jτ43 a k).1, fun a k => (jτ43 a k).2]) <;> exact hr9.2.2.2.2.1) (by intro i hi; (try simp only [rII, rIJ, rIP, rJJ, rJI, rJP, rPP, rPI, rPJ, g1, g2, g3, g4, g5, g6, g7, g8, Nat.reduceEqDiff, Nat.reduceAdd, false_and, and_false, true_and, and_true, reduceIte, nZ0, nZ1, sτ43_30.1, sτ43_30.2, sτ43_33.1, sτ43_33.2, sτ43_34.1, sτ43_34.2, sτ43_36.1, sτ43_36.2, sτ43_50.1, sτ43_50.2, fun a k => (jτ43 a k).1, fun a k => (jτ43 a k).2]) <;> exact k7.2.2 i hi) (LyI.fr hr9.2.2.2.2.2 hja fτ43 (by decide) (by decide)) k7.2.1 (fun σ23 r24 rσ23 fc p23 => ?_)
                  have fσ23 : Fr ra jx rm [20, 26, 40, 41, 42, 43, 44, 45, 46, 47, 48, 49, 54, 55, 56, 57, 58, 59, 60, 61, 62, 63, 64, 65, 68, 69, 70, 71, 72, 73, 74, 75, 76, 77, 78, 81, 82, 83, 84, 85, 86, 87, 88, 89, 97, 98, 99, 100, 101, 102, 103, 104, 105, 106, 107, 108, 109] [0, 21, 27, 31, 32, 35, 66, 67, 79, 80, 90, 91, 92, 93, 96, 110, 111, 113] σ σ23 := Fr.tr fτ43 (Fr.mor (fc) (by decide) (by decide))
                  have p9 := p23.1
                  have p8 := p23.2
                  simp only [(fτ43.2.1 34 (by decide)).1] at p9
                  have q0 := (fc.2.1 0 (by decide)).1
                  have sσ23_30 := fσ23.2.1 30 (by decide)
                  have sσ23_33 := fσ23.2.1 33 (by decide)
                  have sσ23_34 := fσ23.2.1 34 (by decide)
                  have sσ23_36 := fσ23.2.1 36 (by decide)
                  have sσ23_50 := fσ23.2.1 50 (by decide)
                  have jσ23 := fσ23.2.2.1
                  try simp only [forall_eq, rII, rIJ, rIP, rJJ, rJI, rJP, rPP, rPI, rPJ, g1, g2, g3, g4, g5, g6, g7, g8, Nat.reduceEqDiff, Nat.reduceAdd, false_and, and_false, true_and, and_true, reduceIte, nZ0, nZ1, sσ23_30.1, sσ23_30.2, sσ23_33.1, sσ23_33.2, sσ23_34.1, sσ23_34.2, sσ23_36.1, sσ23_36.2, sσ23_50.1, sσ23_50.2, fun a k => (jσ23 a k).1, fun a k => (jσ23 a k).2]
                  refine ⟨by (first | omega | with_reducible assumption | (unfold rng; omega) | (unfold rng; (repeat' split) <;> omega)), ?_⟩
                  refine ⟨by (first | omega | with_reducible assumption | (unfold rng; omega) | (unfold rng; (repeat' split) <;> omega)), ?_⟩
                  refine ih43 _ _ _ ?_ ?_ ?_ ?_
                  · exact rσ23
                  · exact fσ23
                  · refine ⟨?_, ?_⟩; exact (by first | exact ⟨by omega, by omega, by omega, fun _ => k6, fun _ => p9⟩ | (refine ⟨by omega, by omega, by omega, fun q => ?_, fun q => ?_⟩; (first | ((try simp only [rII, rIJ, rIP, rJJ, rJI, rJP, rPP, rPI, rPJ, g1, g2, g3, g4, g5, g6, g7, g8, Nat.reduceEqDiff, Nat.reduceAdd, false_and, and_false, true_and, and_true, reduceIte, nZ0, nZ1, sσ23_30.1, sσ23_30.2, sσ23_33.1, sσ23_33.2, sσ23_34.1, sσ23_34.2, sσ23_36.1, sσ23_36.2, sσ23_50.1, sσ23_50.2, fun a k => (jσ23 a k).1, fun a k => (jσ23 a k).2] at q) <;> omega)); (have z := (hR q).2.1; exact ⟨⟨ThE.fr (jx := jx) (K := []) (S := [0]) z.1.1 (by repeat (first | exact Fr.rf | assumption | refine Fr.aJ g ?_ (by decide) | refine Fr.aI g ?_ (by decide) | refine Fr.sI g ?_ (by decide) | refine Fr.sJ g ?_ (by decide))) (by decide) (by decide), RecE.fr (K := []) (S := [0]) z.1.2.1 (by repeat (first | exact Fr.rf | assumption | refine Fr.aJ g ?_ (by decide) | refine Fr.aI g ?_ (by decide) | refine Fr.sI g ?_ (by decide) | refine Fr.sJ g ?_ (by decide))) (by decide) (by decide), HeE.fr (jx := jx) (K := []) (S := [0]) z.1.2.2.1 (by repeat (first | exact Fr.rf | assumption | refine Fr.aJ g ?_ (by decide) | refine Fr.aI g ?_ (by decide) | refine Fr.sI g ?_ (by decide) | refine Fr.sJ g ?_ (by decide))) (by decide) (by decide), MkI.fr (rm := rm) (K := []) (S := [0]) z.1.2.2.2 (by repeat (first | exact Fr.rf | assumption | refine Fr.aJ g ?_ (by decide) | refine Fr.aI g ?_ (by decide) | refine Fr.sI g ?_ (by decide) | refine Fr.sJ g ?_ (by decide))) (by decide)⟩, LcI.fr (jx := jx) (K := []) (S := [0]) z.2.1 (by repeat (first | exact Fr.rf | assumption | refine Fr.aJ g ?_ (by decide) | refine Fr.aI g ?_ (by decide) | refine Fr.sI g ?_ (by decide) | refine Fr.sJ g ?_ (by decide))) (by decide) (by decide), fun i hi => by (try simp only [rII, rIJ, rIP, rJJ, rJI, rJP, rPP, rPI, rPJ, g1, g2, g3, g4, g5, g6, g7, g8, Nat.reduceEqDiff, Nat.reduceAdd, false_and, and_false, true_and, and_true, reduceIte, nZ0, nZ1, sσ23_30.1, sσ23_30.2, sσ23_33.1, sσ23_33.2, sσ23_34.1, sσ23_34.2, sσ23_36.1, sσ23_36.2, sσ23_50.1, sσ23_50.2, fun a k => (jσ23 a k).1, fun a k => (jσ23 a k).2]) <;> exact z.2.2 i hi⟩))); first | exact fun _ => ⟨_, rfl⟩ | exact fun q => absurd q k6.1
                  · (try simp only [rII, rIJ, rIP, rJJ, rJI, rJP, rPP, rPI, rPJ, g1, g2, g3, g4, g5, g6, g7, g8, Nat.reduceEqDiff, Nat.reduceAdd, false_and, and_false, true_and, and_true, reduceIte, nZ0, nZ1, sσ23_30.1, sσ23_30.2, sσ23_33.1, sσ23_33.2, sσ23_34.1, sσ23_34.2, sσ23_36.1, sσ23_36.2, sσ23_50.1, sσ23_50.2, fun a k => (jσ23 a k).1, fun a k => (jσ23 a k).2]) <;> (first | omega | with_reducible assumption | (unfold rng; omega) | (unfold rng; (repeat' split) <;> omega))
      refine ⟨_, L43 _ _ _ _ ?_ ?_ ?_ (Nat.lt_succ_self _)⟩
      · refine Rg.sI g ?_ (by simp only [rgS]; first | with_reducible exact nZ_rng _ | with_reducible exact nB_rng _ | with_reducible exact wr_rng _ | with_reducible exact i32any _ | (first | omega | with_reducible assumption | (unfold rng; omega) | (unfold rng; (repeat' split) <;> omega))); exact rσ
      · refine Fr.sI g ?_ (by decide); exact fσ
      · refine ⟨?_, ?_⟩; exact (by first | exact ⟨by omega, by omega, by omega, fun _ => k6, fun _ => p9⟩ | (refine ⟨by omega, by omega, by omega, fun q => ?_, fun q => ?_⟩; (first | ((try simp only [rII, rIJ, rIP, rJJ, rJI, rJP, rPP, rPI, rPJ, g1, g2, g3, g4, g5, g6, g7, g8, Nat.reduceEqDiff, Nat.reduceAdd, false_and, and_false, true_and, and_true, reduceIte, nZ0, nZ1] at q) <;> omega)); (have z := (hR q).2.1; exact ⟨⟨ThE.fr (jx := jx) (K := []) (S := [0]) z.1.1 (by repeat (first | exact Fr.rf | assumption | refine Fr.aJ g ?_ (by decide) | refine Fr.aI g ?_ (by decide) | refine Fr.sI g ?_ (by decide) | refine Fr.sJ g ?_ (by decide))) (by decide) (by decide), RecE.fr (K := []) (S := [0]) z.1.2.1 (by repeat (first | exact Fr.rf | assumption | refine Fr.aJ g ?_ (by decide) | refine Fr.aI g ?_ (by decide) | refine Fr.sI g ?_ (by decide) | refine Fr.sJ g ?_ (by decide))) (by decide) (by decide), HeE.fr (jx := jx) (K := []) (S := [0]) z.1.2.2.1 (by repeat (first | exact Fr.rf | assumption | refine Fr.aJ g ?_ (by decide) | refine Fr.aI g ?_ (by decide) | refine Fr.sI g ?_ (by decide) | refine Fr.sJ g ?_ (by decide))) (by decide) (by decide), MkI.fr (rm := rm) (K := []) (S := [0]) z.1.2.2.2 (by repeat (first | exact Fr.rf | assumption | refine Fr.aJ g ?_ (by decide) | refine Fr.aI g ?_ (by decide) | refine Fr.sI g ?_ (by decide) | refine Fr.sJ g ?_ (by decide))) (by decide)⟩, LcI.fr (jx := jx) (K := []) (S := [0]) z.2.1 (by repeat (first | exact Fr.rf | assumption | refine Fr.aJ g ?_ (by decide) | refine Fr.aI g ?_ (by decide) | refine Fr.sI g ?_ (by decide) | refine Fr.sJ g ?_ (by decide))) (by decide) (by decide), fun i hi => by (try simp only [rII, rIJ, rIP, rJJ, rJI, rJP, rPP, rPI, rPJ, g1, g2, g3, g4, g5, g6, g7, g8, Nat.reduceEqDiff, Nat.reduceAdd, false_and, and_false, true_and, and_true, reduceIte, nZ0, nZ1]) <;> exact z.2.2 i hi⟩))); first | exact fun _ => ⟨_, rfl⟩ | exact fun q => absurd q k6.1


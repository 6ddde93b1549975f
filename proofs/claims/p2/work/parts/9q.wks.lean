/-! what Works wants -/
section WKS
variable {σ : Sg} {gq ci gr nc N nu : Nat → Nat} {ot : Nat → Nat → Int} {LL : Nat → List Nat} {pl w r c o i x : Nat} {v : Int}
theorem IV.tc (h : IV σ pl gq ci gr nc ot LL N nu) (hr : kO σ r 9) : gI σ r 10 = (nu 15 : Int) ∧ gI σ r 11 = (nu 16 : Int) := by
  obtain ⟨r0, x1, z1, z2⟩ := h.2.1.2.2.2.2.2.2.1
  rw [h.un hr x1 rfl]; exact ⟨z1, z2⟩
theorem plc_n (h : IV σ pl gq ci gr nc ot LL N nu) (hq : gq c = 13) (hc : ci c < nu 15) : PlC σ gq ci ot c := by
  obtain ⟨r0, x1, z1, z2⟩ := h.2.1.2.2.2.2.2.2.1
  exact plc_t h x1 hq (by omega)
theorem plc_ab {t : Nat} (h : IV σ pl gq ci gr nc ot LL N nu) (hq : gq c = 11 ∨ gq c = 12) (hc : ci c < nu 15) (kt : kO σ t 10) (ht : gq t = 1) (hct : ci t = ci c) (ho : gI σ t 0 = (i : Int)) (h7 : 0 ≤ ot i 7) : PlC σ gq ci ot c := by
  obtain ⟨r0, x1, z1, z2⟩ := h.2.1.2.2.2.2.2.2.1
  exact plc_u h x1 hq (by omega) kt ht hct ho h7
theorem IV.op (h : IV σ pl gq ci gr nc ot LL N nu) (ho : kO σ o 5) (hq : gq o = 16 * nc 0 + i) (hi : i < nc 1) (k : Nat) (h3 : 3 ≤ k ∧ k ≤ 16) : gI σ o k = ot i k := h.2.2.2.2.1.2.2.2.1 o ho i hi hq k h3.1 h3.2
theorem IV.opok (h : IV σ pl gq ci gr nc ot LL N nu) (hi : i < nc 1) : OpOK ot i := h.2.2.2.2.1.2.1 i hi
theorem IV.recs (h : IV σ pl gq ci gr nc ot LL N nu) (hw : kO σ w 11) : ((N (10 * gq w + 1) : Nat) : Int) + (N (10 * gq w + 2) : Nat) ≤ gI σ w 4 := (h.2.2.1.1 w hw).2
/-- how many records there are -/
theorem IV.rec (h : IV σ pl gq ci gr nc ot LL N nu) (hw : kO σ w 11) (hr : ((N (10 * gq w + 1) : Nat) : Int) + (N (10 * gq w + 2) : Nat) ≤ v) (hv : v ≤ 4001) : IV (pI σ w 4 v) pl gq ci gr nc ot LL N nu := by
  obtain ⟨i1, i2, i3, i4, i5, i6, i7, own, i8⟩ := id h
  have s : Sk [708] gr σ (pI σ w 4 v) := Sk.pI (by rw [fcdO hw (by decide)]; decide)
  refine ⟨i1.pI (fun _ => by rw [labO hw (by decide)]; exact (show (0 : Int) ≤ v ∧ v ≤ 4001 by omega)), i2.sk s (by decide), ?_, i4.sk i8 s (by decide), i5.sk i1 s (by decide), i6.sk s rfl rfl (by decide), ⟨RG.pI i7.1 (by unfold rng; omega), i7.2.sk s (by decide)⟩, own, i8.sk s (by decide)⟩
  obtain ⟨a1, a2, a3, a4, a5⟩ := i3
  refine ⟨fun w' hw' => ?_, fun r hr => ?_, fun d hd p s hp hs => ?_, a4, fun p hp => ?_⟩
  · refine ⟨(a1 w' hw').1, ?_⟩
    by_cases q : w' = w
    · subst q; rw [gI_pI, up2_s]; exact hr
    · rw [gI_pI, up2_n _ _ (fun z => q z.1)]; exact (a1 w' hw').2
  · rw [gI_pI, up2_n _ _ (fun z => absurd z.2 (by decide))]; exact a2 r hr
  · rw [gI_pI, up2_n _ _ (fun z => absurd z.2 (by decide)), up2_n _ _ (fun z => absurd z.2 (by decide))]; exact a3 d hd p s hp hs
  · rw [gI_pI, up2_n _ _ (fun z => absurd z.2 (by decide))]; exact a5 p hp
theorem IV.uw (h : IV σ pl gq ci gr nc ot LL N nu) (hw : kO σ w 11) : ∀ v, kO σ v 11 → gq v = gq w → v = w := fun v hv q => h.unq hv hw rfl rfl q
theorem sc_ab1 {G : Nat} {N' : Nat → Nat} (h : IV σ pl gq ci gr nc ot LL N nu) (hw : kO σ w 11) (hT : gq w = 1) (hG : G = 11 ∨ G = 12) (hN : NF [G, 1] N N') (h1 : N' G = N G + 1) (hr : ((N 11 : Nat) : Int) + (N 12 : Nat) + 1 ≤ gI σ w 4) : SC σ gq N' := h.2.2.1.ab hw (by rw [hT]; exact hG) hN h1 (h.uw hw) (by rw [hT]; exact hr)
theorem IV.recs1 (h : IV σ pl gq ci gr nc ot LL N nu) (hw : kO σ w 11) (hT : gq w = 1) : ((N 11 : Nat) : Int) + (N 12 : Nat) ≤ gI σ w 4 := by have := h.recs hw; rw [hT] at this; exact this
theorem IV.rec1 (h : IV σ pl gq ci gr nc ot LL N nu) (hw : kO σ w 11) (hT : gq w = 1) (hr : ((N 11 : Nat) : Int) + (N 12 : Nat) ≤ v) (hv : v ≤ 4001) : IV (pI σ w 4 v) pl gq ci gr nc ot LL N nu := h.rec hw (by rw [hT]; exact hr) hv
theorem sc_ab4 {G : Nat} {N' : Nat → Nat} (h : IV σ pl gq ci gr nc ot LL N nu) (hw : kO σ w 11) (hT : gq w = 4) (hG : G = 41 ∨ G = 42) (hN : NF [G, 1] N N') (h1 : N' G = N G + 1) (hr : ((N 41 : Nat) : Int) + (N 42 : Nat) + 1 ≤ gI σ w 4) : SC σ gq N' := h.2.2.1.ab hw (by rw [hT]; exact hG) hN h1 (h.uw hw) (by rw [hT]; exact hr)
theorem IV.recs4 (h : IV σ pl gq ci gr nc ot LL N nu) (hw : kO σ w 11) (hT : gq w = 4) : ((N 41 : Nat) : Int) + (N 42 : Nat) ≤ gI σ w 4 := by have := h.recs hw; rw [hT] at this; exact this
theorem IV.rec4 (h : IV σ pl gq ci gr nc ot LL N nu) (hw : kO σ w 11) (hT : gq w = 4) (hr : ((N 41 : Nat) : Int) + (N 42 : Nat) ≤ v) (hv : v ≤ 4001) : IV (pI σ w 4 v) pl gq ci gr nc ot LL N nu := h.rec hw (by rw [hT]; exact hr) hv
theorem plc_y {G : Nat} (hq : gq c = G) (hG : G ∈ [14, 41, 42, 44, 60, 61, 62, 63, 64, 65, 66, 67, 68, 69, 70, 71, 74, 80, 81, 82, 83, 84, 85, 86, 87, 88, 89, 90, 91, 92, 93, 94, 95]) : PlC σ gq ci ot c := plc_x (by rw [hq]; exact hG)
theorem no50 {G : Nat} {P : Prop} (h : G ≠ 50) : G = 50 → P := fun q => absurd q h
theorem no13 {G : Nat} {P : Prop} (h : G ≠ 13) : G = 13 → P := fun q => absurd q h
end WKS
section RNS
variable {σ : Sg} {gq ci gr nc N nu : Nat → Nat} {ot : Nat → Nat → Int} {LL : Nat → List Nat} {pl r c t w x : Nat} {v : Int}
theorem P_112 (h : IV σ pl gq ci gr nc ot LL N nu) (hw : kO σ w 112) {k : Nat} (hk : k < nu 1) : ∃ b, gP σ w k = some b ∧ kO σ b 2 ∧ ci b = k := by
  cases e : gP σ w k with
  | none => exact absurd e (h.2.1.2.2.1 w hw k hk)
  | some b => exact ⟨b, rfl, h.1.kd hw rfl e rfl, T_112 h.1 hw e⟩
theorem P_120 (h : IV σ pl gq ci gr nc ot LL N nu) (hw : kO σ w 120) (hq : gq w = 1) {k : Nat} (hk : k < nu 0) : ∃ b, gP σ w k = some b ∧ kO σ b 10 ∧ gq b = 1 ∧ ci b = k := by
  cases e : gP σ w k with
  | none => exact absurd e (h.2.1.2.1 w hw hq k hk)
  | some b => exact ⟨b, rfl, h.1.kd hw rfl e rfl, (T_120 h.1 hw e).1.trans hq, (T_120 h.1 hw e).2⟩
theorem IV.n16 (h : IV σ pl gq ci gr nc ot LL N nu) : nu 15 ≤ nu 0 ∧ nu 16 ≤ nu 1 ∧ nu 0 ≤ 64 ∧ nu 1 ≤ 512 := by
  obtain ⟨r0, x1, z1, z2⟩ := h.2.1.2.2.2.2.2.2.1
  have a := I_9_10 h.1 x1
  have b := I_9_11 h.1 x1
  have := h.2.1.1
  omega
theorem IV.chr (h : IV σ pl gq ci gr nc ot LL N nu) (hc : kO σ c 2) (hi : ci c < nu 16) : (0 ≤ gI σ c 1 ∧ gI σ c 1 < (nu 0 : Int)) ∧ (0 ≤ gI σ c 2 ∧ gI σ c 2 < (nu 0 : Int)) ∧ (gI σ c 7 = -1 ∨ ((ci c : Int) < gI σ c 7 ∧ gI σ c 7 < (nu 16 : Int))) := h.2.1.2.2.2.1 c hc hi
theorem IV.tkr (h : IV σ pl gq ci gr nc ot LL N nu) (ht : kO σ t 10) (hq : gq t = 1) (hi : ci t < nu 15) : gI σ t 11 + gI σ t 12 ≤ (nu 16 : Int) ∧ (-1 ≤ gI σ t 14 ∧ gI σ t 14 < (nu 16 : Int)) ∧ (-1 ≤ gI σ t 15 ∧ gI σ t 15 < (nu 16 : Int)) := by
  obtain ⟨r0, x1, z1, z2⟩ := h.2.1.2.2.2.2.2.2.1
  have := h.2.1.2.2.2.2.1 r0 x1 t ht hq (by omega)
  rw [z2] at this; exact ⟨this.1, this.2.1, this.2.2.1⟩
theorem IV.tko (h : IV σ pl gq ci gr nc ot LL N nu) (ht : kO σ t 10) (hq : gq t = 1) (hi : ci t < nu 15) : gI σ t 0 < (nu 17 : Int) := by
  obtain ⟨r0, x1, z1, z2⟩ := h.2.1.2.2.2.2.2.2.1
  exact (h.2.1.2.2.2.2.1 r0 x1 t ht hq (by omega)).2.2.2
/-- how many things wait in boxes -/
theorem IV.boxd (h : IV σ pl gq ci gr nc ot LL N nu) (hr : kO σ r 9) (h0 : ((N 13 : Nat) : Int) ≤ v) (hv : v ≤ 4000) : IV (pI σ r 14 v) pl gq ci gr nc ot LL N nu := by
  obtain ⟨i1, i2, i3, i4, i5, i6, i7, own, i8⟩ := id h
  have s : Sk [590] gr σ (pI σ r 14 v) := Sk.pI (by rw [fcdO hr (by decide)]; decide)
  refine ⟨i1.pI (fun _ => by rw [labO hr (by decide)]; exact (show (0 : Int) ≤ v ∧ v ≤ 4000 by omega)), i2.sk s (by decide), ?_, i4.sk i8 s (by decide), i5.sk i1 s (by decide), i6.sk s rfl rfl (by decide), ⟨RG.pI i7.1 (by unfold rng; omega), i7.2.sk s (by decide)⟩, own, i8.sk s (by decide)⟩
  obtain ⟨a1, a2, a3, a4, a5⟩ := i3
  refine ⟨fun w' hw' => ⟨(a1 w' hw').1, ?_⟩, fun r' hr' => ?_, fun d hd p s hp hs => ?_, a4, fun p hp => ?_⟩
  · rw [gI_pI, up2_n _ _ (fun z => absurd z.2 (by decide))]; exact (a1 w' hw').2
  · rw [h.un hr' hr rfl, gI_pI, up2_s]; exact h0
  · rw [gI_pI, up2_n _ _ (fun z => absurd z.2 (by decide)), up2_n _ _ (fun z => absurd z.2 (by decide))]; exact a3 d hd p s hp hs
  · rw [gI_pI, up2_n _ _ (fun z => absurd z.2 (by decide))]; exact a5 p hp
theorem IV.bx (h : IV σ pl gq ci gr nc ot LL N nu) (hr : kO σ r 9) : ((N 13 : Nat) : Int) ≤ gI σ r 14 := h.2.2.1.2.1 r hr
theorem sc_box {N' : Nat → Nat} (h : IV σ pl gq ci gr nc ot LL N nu) (hr : kO σ r 9) (n1 : NF [13, 1] N N') (n2 : N' 13 = N 13 + 1) (hb : ((N 13 : Nat) : Int) + 1 ≤ gI σ r 14) : SC σ gq N' := h.2.2.1.box n1 n2 (fun r' hr' => by rw [h.un hr' hr rfl]; exact hb)
theorem plc_50 (h : IV σ pl gq ci gr nc ot LL N nu) (hq : gq x = 50) (hi : ci x < nu 16) : PlC σ gq ci ot x := by
  refine ⟨by rw [hq]; decide, fun w => by omega, fun _ r hr => by have := (h.tc hr).2; omega, fun w => by omega, fun w => by omega, fun w => by omega, fun w => by omega⟩
end RNS
